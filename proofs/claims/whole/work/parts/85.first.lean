/-! FIRST, in the class (made by wip/whole/gen85.py) -/
/-- one who is at v at T can be at w at g -/
def Led (S : Nat → Int32) (k g w T v : Nat) : Prop := ∀ Q : Nat → Nat → Prop, Q g w → (∀ T v, Q (T + 1) v → Q T v) → (∀ T v r, Q (T + sn S (177 + 3 * r + 2)) (otN S r v) → bd S k v T = false → r < sn S 3 → otP S r v → Q T v) → Q T v
theorem Led.base {S : Nat → Int32} {k g w : Nat} : Led S k g w g w := fun _ h _ _ => h
theorem Led.wait {S : Nat → Int32} {k g w T v : Nat} (h : Led S k g w (T + 1) v) : Led S k g w T v := fun Q a b c => b _ _ (h Q a b c)
theorem Led.go {S : Nat → Int32} {k g w T v r : Nat} (h : Led S k g w (T + sn S (177 + 3 * r + 2)) (otN S r v)) (hb : bd S k v T = false) (hr : r < sn S 3) (ho : otP S r v) : Led S k g w T v := fun Q a b c => c _ _ _ (h Q a b c) hb hr ho
theorem Led.waits {S : Nat → Int32} {k g w T v : Nat} : ∀ n, Led S k g w (T + n) v → Led S k g w T v
  | 0, h => h
  | n + 1, h => Led.waits n h.wait
theorem Led.mono {S : Nat → Int32} {k g w T T' v : Nat} (h : Led S k g w T v) (hT : T' ≤ T) : Led S k g w T' v := Led.waits (T - T') (by rw [show T' + (T - T') = T by omega]; exact h)
theorem Led.le {S : Nat → Int32} {k g w T v : Nat} (h : Led S k g w T v) : T ≤ g := h (fun T _ => T ≤ g) (Nat.le_refl _) (fun _ _ h => by omega) (fun _ _ _ h _ _ _ => by omega)
theorem Led.cases {S : Nat → Int32} {k g w T v : Nat} (h : Led S k g w T v) : (T = g ∧ v = w) ∨ Led S k g w (T + 1) v ∨ ∃ r, r < sn S 3 ∧ otP S r v ∧ bd S k v T = false ∧ Led S k g w (T + sn S (177 + 3 * r + 2)) (otN S r v) := by
  have up : ∀ T v, ((T = g ∧ v = w) ∨ Led S k g w (T + 1) v ∨ ∃ r, r < sn S 3 ∧ otP S r v ∧ bd S k v T = false ∧ Led S k g w (T + sn S (177 + 3 * r + 2)) (otN S r v)) → Led S k g w T v := by
    intro T v h
    rcases h with ⟨rfl, rfl⟩ | h | ⟨r, hr, ho, hb, h⟩
    · exact Led.base
    · exact h.wait
    · exact h.go hb hr ho
  exact h (fun T v => (T = g ∧ v = w) ∨ Led S k g w (T + 1) v ∨ ∃ r, r < sn S 3 ∧ otP S r v ∧ bd S k v T = false ∧ Led S k g w (T + sn S (177 + 3 * r + 2)) (otN S r v)) (Or.inl ⟨rfl, rfl⟩) (fun T v h => Or.inr (Or.inl (up _ _ h))) (fun T v r h hb hr ho => Or.inr (Or.inr ⟨r, hr, ho, hb, up _ _ h⟩))
noncomputable def ldB (S : Nat → Int32) (k g w T v : Nat) : Bool := @decide (Led S k g w T v) (Classical.propDecidable _)
theorem ldB_t {S : Nat → Int32} {k g w T v : Nat} : ldB S k g w T v = true ↔ Led S k g w T v := by unfold ldB; exact @decide_eq_true_iff _ (Classical.propDecidable _)
/-- a road by which one can set out at T -/
noncomputable def okR (S : Nat → Int32) (k g w h T r : Nat) : Bool := decide (sn S (177 + 3 * r) = h ∨ sn S (177 + 3 * r + 1) = h) && (ldB S k g w (T + sn S (177 + 3 * r + 2)) (otN S r h) && !bd S k h T)
theorem okR_t {S : Nat → Int32} {k g w h T r : Nat} : okR S k g w h T r = true ↔ otP S r h ∧ Led S k g w (T + sn S (177 + 3 * r + 2)) (otN S r h) ∧ bd S k h T = false := by
  unfold okR
  rw [Bool.and_eq_true, Bool.and_eq_true, decide_eq_true_iff, ldB_t, Bool.not_eq_true']
  exact Iff.rfl
theorem okR_f {S : Nat → Int32} {k g w h T r : Nat} (c : ¬ (otP S r h ∧ Led S k g w (T + sn S (177 + 3 * r + 2)) (otN S r h) ∧ bd S k h T = false)) : okR S k g w h T r = false := by
  rw [← okR_t] at c
  simpa using c
noncomputable def firI (S : Nat → Int32) (k g w h : Nat) : Nat := fnd (fun i => anyb (okR S k g w h (g - 1 - i)) (sn S 3)) (g - sn S 8) 0
noncomputable def firV (S : Nat → Int32) (k g w h : Nat) : Int32 := if firI S k g w h < g - sn S 8 then nI (fnd (okR S k g w h (g - 1 - firI S k g w h)) (sn S 3) 0) else -1
theorem firV_at {S : Nat → Int32} {k g w h T r : Nat} (h8 : sn S 8 ≤ T) (hT : T < g) (hr : r < sn S 3) (ho : okR S k g w h T r = true) (h1 : ∀ q, q < r → okR S k g w h T q = false) (h2 : ∀ U, T < U → U < g → ∀ q, q < sn S 3 → okR S k g w h U q = false) : firV S k g w h = nI r := by
  have e1 : firI S k g w h = g - 1 - T := fnd_eq (Nat.zero_le _) (by omega) (by show anyb (okR S k g w h (g - 1 - (g - 1 - T))) (sn S 3) = true; rw [show g - 1 - (g - 1 - T) = T by omega]; exact anyb_iff.mpr ⟨r, hr, ho⟩) (fun i _ hi => any_f (fun q hq => h2 _ (by omega) (by omega) q hq))
  unfold firV
  rw [e1, if_pos (by omega), show g - 1 - (g - 1 - T) = T by omega]
  exact congrArg nI (fnd_eq (Nat.zero_le _) (by omega) ho (fun q _ hq => h1 q hq))
theorem firV_no {S : Nat → Int32} {k g w h : Nat} (h2 : ∀ U, sn S 8 ≤ U → U < g → ∀ q, q < sn S 3 → okR S k g w h U q = false) : firV S k g w h = -1 := by
  unfold firV
  rw [if_neg (fun c => ?_)]
  have h3 := (fnd_spec (fun i => anyb (okR S k g w h (g - 1 - i)) (sn S 3)) (g - sn S 8) 0).2.2.2 (by unfold firI at c; omega)
  unfold firI at c
  rw [any_f (fun q hq => h2 _ (by omega) (by omega) q hq)] at h3
  cases h3
/-- the latest times as the class has them, one more; 0: none -/
def laM (s : Mg) (F : Nat → Nat) : Prop := ∀ u, u < 6 → s 11 u = nI (F u) - 1 ∧ F u ≤ 200402
theorem laM.up {s : Mg} {F : Nat → Nat} (h : laM s F) {u x : Nat} (hx : x ≤ 200401) : laM (mu s 11 u (nI x)) (fun i => if i = u then x + 1 else F i) := fun i hi => by
  dsimp only
  by_cases e : i = u
  · subst e
    rw [mu_self, if_pos rfl]
    exact ⟨by rw [← nI_add, show nI 1 = 1 from rfl, Int32.add_sub_cancel], by omega⟩
  · rw [mu_idx e, if_neg e]
    exact h i hi
theorem laM.eq {s s' : Mg} {F : Nat → Nat} (h : laM s F) (e : s' 11 = s 11) : laM s' F := fun u hu => by rw [e]; exact h u hu
theorem m1_eq {a : Nat} (ha : a ≤ 300000) : nI a - 1 = -1 ↔ a = 0 := by
  constructor
  · intro h
    rcases Nat.eq_zero_or_pos a with h0 | h0
    · exact h0
    · rw [show (1 : Int32) = nI 1 from rfl, nI_sub h0] at h
      exact absurd h (nI_m1 (by omega))
  · intro h; subst h; decide
theorem m1_lt {a b : Nat} (ha : a ≤ 300000) (hb : b ≤ 300000) : nI a - 1 < nI b ↔ a ≤ b := by
  rcases Nat.eq_zero_or_pos a with h0 | h0
  · subst h0
    refine ⟨fun _ => Nat.zero_le _, fun _ => ?_⟩
    exact Int32.lt_of_lt_of_le (show nI 0 - 1 < 0 by decide) (nI_pos' (by omega))
  · rw [show (1 : Int32) = nI 1 from rfl, nI_sub h0, nI_ltI (by omega) (by omega)]
    omega
/-- the first road in time -/
def rtP (S : Nat → Int32) (F : Nat → Nat) (v t r : Nat) : Bool := decide (sn S (177 + 3 * r) = v ∨ sn S (177 + 3 * r + 1) = v) && decide (t + sn S (177 + 3 * r + 2) < F (otN S r v))
theorem rtP_t {S : Nat → Int32} {F : Nat → Nat} {v t r : Nat} : rtP S F v t r = true ↔ otP S r v ∧ t + sn S (177 + 3 * r + 2) < F (otN S r v) := by
  unfold rtP
  rw [Bool.and_eq_true, decide_eq_true_iff, decide_eq_true_iff]
  exact Iff.rfl
theorem rtP_f {S : Nat → Int32} {F : Nat → Nat} {v t r : Nat} (h : ¬ (otP S r v ∧ t + sn S (177 + 3 * r + 2) < F (otN S r v))) : rtP S F v t r = false := by
  rw [← rtP_t] at h
  simpa using h
def rtN (S : Nat → Int32) (F : Nat → Nat) (v t : Nat) : Nat := fnd (rtP S F v t) (sn S 3) 0

theorem b_91_0 {X : Nat × (Nat → Int32)} {d : Nat} {p : Nat → Nat} {sg : Mg} {Q : am_R → Prop} {B : Nat} {S : Nat → Int32} (hI : Inv B S) (hL : cwL 250 sg S) (hD : cwD 200 sg S) {v : Nat} {t : Nat} (u_v : v ≤ 5) (u_t : t ≤ 200400)
    (o1 : gW X (d + 2) k_91 2 [some (vR 8), some (vI (nI v)), some (vI (nI t)), some (vR 11), some (vI 0), none] [] p sg Q) :
    gW X (d + 2) k_91 0 [some (vR 8), some (vI (nI v)), some (vI (nI t)), some (vR 11), none, none] [] p sg Q := by
  have b0 := hI.b0; have b1 := hI.b1; have b2 := hI.b2; have b3 := hI.b3; have b4 := hI.b4; have b5 := hI.b5; have b6 := hI.b6; have b7 := hI.b7; have b8 := hI.b8; have b9 := hI.b9; have b14 := hI.b14
  refine g_pure 2 (i' := 2) (lv' := [some (vR 8), some (vI (nI v)), some (vI (nI t)), some (vR 11), some (vI 0), none]) (st' := []) rfl ?_
  exact o1

theorem b_91_2 {X : Nat × (Nat → Int32)} {d : Nat} {p : Nat → Nat} {sg : Mg} {Q : am_R → Prop} {B : Nat} {S : Nat → Int32} (hI : Inv B S) (hL : cwL 250 sg S) (hD : cwD 200 sg S) {v : Nat} {t : Nat} {j : Nat} {z5 : Option AV} (u_v : v ≤ 5) (u_t : t ≤ 200400) (u_j : j ≤ 12)
    (o1 : (sn S 3 ≤ j) → Q (gRv p sg (-1)))
    (o2 : (¬ (sn S 3 ≤ j)) → (otP S j v) → (nI (otN S j v) = (-1)) → gW X (d + 2) k_91 2 [some (vR 8), some (vI (nI v)), some (vI (nI t)), some (vR 11), some (vI (nI (j + 1))), some (vI (nI (otN S j v)))] [] p sg Q)
    (o3 : (¬ (sn S 3 ≤ j)) → (otP S j v) → (¬ (nI (otN S j v) = (-1))) → (sg 11 (otN S j v) < nI (t + sn S (177 + 3 * j + 2))) → gW X (d + 2) k_91 2 [some (vR 8), some (vI (nI v)), some (vI (nI t)), some (vR 11), some (vI (nI (j + 1))), some (vI (nI (otN S j v)))] [] p sg Q)
    (o4 : (¬ (sn S 3 ≤ j)) → (otP S j v) → (¬ (nI (otN S j v) = (-1))) → (¬ (sg 11 (otN S j v) < nI (t + sn S (177 + 3 * j + 2)))) → Q (gRv p sg (nI j)))
    (o5 : (¬ (sn S 3 ≤ j)) → (¬ otP S j v) → gW X (d + 2) k_91 2 [some (vR 8), some (vI (nI v)), some (vI (nI t)), some (vR 11), some (vI (nI (j + 1))), some (vI (-1))] [] p sg Q) :
    gW X (d + 2) k_91 2 [some (vR 8), some (vI (nI v)), some (vI (nI t)), some (vR 11), some (vI (nI j)), z5] [] p sg Q := by
  have b0 := hI.b0; have b1 := hI.b1; have b2 := hI.b2; have b3 := hI.b3; have b4 := hI.b4; have b5 := hI.b5; have b6 := hI.b6; have b7 := hI.b7; have b8 := hI.b8; have b9 := hI.b9; have b14 := hI.b14
  refine g_pure 5 (i' := 7) (lv' := [some (vR 8), some (vI (nI v)), some (vI (nI t)), some (vR 11), some (vI (nI j)), z5]) (st' := [vI 3, vR 203, vI (nI j)]) rfl ?_
  refine g_ald rfl (g_A (a := 203) (kd := 1) (n := 6) rfl (by decide)) (by decide) (show 3 = nI 3 from (show (3 : Int32) = nI 3 from rfl)) (by decide) (show _ = S 3 from (hD.cnt (by decide))) ?_
  refine g_if2 (i' := 35) (P := sn S 3 ≤ j) rfl rfl (g_geN (show nI j = nI j from (rfl : nI j = nI j)) (show S 3 = nI (sn S 3) from (hI.c3)) (by omega) (by omega)) (fun h1 => ?_) (fun h1 => ?_)
  · refine g_pure 1 (i' := 36) (lv' := [some (vR 8), some (vI (nI v)), some (vI (nI t)), some (vR 11), some (vI (nI j)), z5]) (st' := [vI (-1)]) rfl ?_
    refine g_iret rfl ?_
    exact o1 h1
  · refine g_pure 4 (i' := 13) (lv' := [some (vR 8), some (vI (nI v)), some (vI (nI t)), some (vR 11), some (vI (nI j)), z5]) (st' := [vI (nI v), vI (nI j), vR 202]) rfl ?_
    by_cases h2 : otP S j v
    · refine g_cV1 rfl (args := [vR 202, vI (nI j), vI (nI v)]) (rest := []) rfl rfl rfl (s_39o (d := d) hI hL hD (by omega) (by omega) (by omega) (by assumption)) ?_
      have t3 := otN_lt hI (r := j) (by omega) v
      refine g_pure 3 (i' := 17) (lv' := [some (vR 8), some (vI (nI v)), some (vI (nI t)), some (vR 11), some (vI (nI j)), some (vI (nI (otN S j v)))]) (st' := [vI (-1), vI (nI (otN S j v))]) rfl ?_
      refine g_if2 (i' := 33) (P := nI (otN S j v) = (-1)) rfl rfl Iff.rfl (fun h4 => ?_) (fun h4 => ?_)
      · refine g_pure 2 (i' := 2) (lv' := [some (vR 8), some (vI (nI v)), some (vI (nI t)), some (vR 11), some (vI (nI j + 1)), some (vI (nI (otN S j v)))]) (st' := []) rfl ?_
        refine gW_eq (lv' := [some (vR 8), some (vI (nI v)), some (vI (nI t)), some (vR 11), some (vI (nI (j + 1))), some (vI (nI (otN S j v)))]) (st' := []) (by rw [(show (nI j + 1) = nI (j + 1) from ((g_add (rfl : nI j = nI j) (show (1 : Int32) = nI 1 from rfl))).trans (congrArg nI (by omega)))]) rfl rfl ?_
        exact o2 h1 h2 h4
      · refine g_pure 5 (i' := 23) (lv' := [some (vR 8), some (vI (nI v)), some (vI (nI t)), some (vR 11), some (vI (nI j)), some (vI (nI (otN S j v)))]) (st' := [vI (nI j), vR 205, vI (nI t)]) rfl ?_
        refine g_aald rfl (Or.inl rfl) (g_A (a := 205) (kd := 5) (n := 12) rfl (by decide)) (by decide) (show nI j = nI j from (rfl : nI j = nI j)) (by omega) (gR_205 (by omega)) ?_
        refine g_pure 1 (i' := 25) (lv' := [some (vR 8), some (vI (nI v)), some (vI (nI t)), some (vR 11), some (vI (nI j)), some (vI (nI (otN S j v)))]) (st' := [vI 2, vR (222 + j), vI (nI t)]) rfl ?_
        refine g_ald rfl (gA_205 (by omega)) (by decide) (show 2 = nI 2 from (show (2 : Int32) = nI 2 from rfl)) (by decide) (show _ = S (177 + 3 * j + 2) from (hD.roa 2 (by omega) (by decide))) ?_
        have t5 := (hI.roa (k := j) (by omega)).2.2.1
        have t5b := t5.2
        refine g_pure 3 (i' := 29) (lv' := [some (vR 8), some (vI (nI v)), some (vI (nI t)), some (vR 11), some (vI (nI j)), some (vI (nI (otN S j v)))]) (st' := [vI (nI (otN S j v)), vR 11, vI (nI t + S (177 + 3 * j + 2))]) rfl ?_
        refine gW_eq (lv' := [some (vR 8), some (vI (nI v)), some (vI (nI t)), some (vR 11), some (vI (nI j)), some (vI (nI (otN S j v)))]) (st' := [vI (nI (otN S j v)), vR 11, vI (nI (t + sn S (177 + 3 * j + 2)))]) rfl (by rw [(show (nI t + S (177 + 3 * j + 2)) = nI (t + sn S (177 + 3 * j + 2)) from ((g_add (rfl : nI t = nI t) t5.1)).trans (congrArg nI (by omega)))]) rfl ?_
        refine g_ald rfl (g_A (a := 11) (kd := 1) (n := 6) rfl (by decide)) (by decide) (show nI (otN S j v) = nI (otN S j v) from (rfl : nI (otN S j v) = nI (otN S j v))) (by omega) (show _ = sg 11 (otN S j v) from rfl) ?_
        refine g_if2 (i' := 33) (P := sg 11 (otN S j v) < nI (t + sn S (177 + 3 * j + 2))) rfl rfl Iff.rfl (fun h6 => ?_) (fun h6 => ?_)
        · refine g_pure 2 (i' := 2) (lv' := [some (vR 8), some (vI (nI v)), some (vI (nI t)), some (vR 11), some (vI (nI j + 1)), some (vI (nI (otN S j v)))]) (st' := []) rfl ?_
          refine gW_eq (lv' := [some (vR 8), some (vI (nI v)), some (vI (nI t)), some (vR 11), some (vI (nI (j + 1))), some (vI (nI (otN S j v)))]) (st' := []) (by rw [(show (nI j + 1) = nI (j + 1) from ((g_add (rfl : nI j = nI j) (show (1 : Int32) = nI 1 from rfl))).trans (congrArg nI (by omega)))]) rfl rfl ?_
          exact o3 h1 h2 h4 h6
        · refine g_pure 1 (i' := 32) (lv' := [some (vR 8), some (vI (nI v)), some (vI (nI t)), some (vR 11), some (vI (nI j)), some (vI (nI (otN S j v)))]) (st' := [vI (nI j)]) rfl ?_
          refine g_iret rfl ?_
          exact o4 h1 h2 h4 h6
    · refine g_cV1 rfl (args := [vR 202, vI (nI j), vI (nI v)]) (rest := []) rfl rfl rfl (s_39x (d := d) hI hL hD (by omega) (by omega) (by omega) (by assumption)) ?_
      refine g_pure 3 (i' := 17) (lv' := [some (vR 8), some (vI (nI v)), some (vI (nI t)), some (vR 11), some (vI (nI j)), some (vI (-1))]) (st' := [vI (-1), vI (-1)]) rfl ?_
      refine g_if2 (i' := 33) (P := ((-1) : Int32) = (-1)) rfl rfl Iff.rfl (fun _ => ?_) (fun h7 => absurd (by decide) h7)
      refine g_pure 2 (i' := 2) (lv' := [some (vR 8), some (vI (nI v)), some (vI (nI t)), some (vR 11), some (vI (nI j + 1)), some (vI (-1))]) (st' := []) rfl ?_
      refine gW_eq (lv' := [some (vR 8), some (vI (nI v)), some (vI (nI t)), some (vR 11), some (vI (nI (j + 1))), some (vI (-1))]) (st' := []) (by rw [(show (nI j + 1) = nI (j + 1) from ((g_add (rfl : nI j = nI j) (show (1 : Int32) = nI 1 from rfl))).trans (congrArg nI (by omega)))]) rfl rfl ?_
      exact o5 h1 h2

theorem s_91 {X : Nat × (Nat → Int32)} {d : Nat} {p : Nat → Nat} {sg : Mg} {B : Nat} {S : Nat → Int32} (hI : Inv B S) (hL : cwL 250 sg S) (hD : cwD 200 sg S) {v t : Nat} {F : Nat → Nat} (hv : v < sn S 0) (ht : t ≤ 200400) (hM : laM sg F) : gF X (d + 3) 91 [vR 8, vI (nI v), vI (nI t), vR 11] p sg (fun r => r = gRv p sg (if rtN S F v t < sn S 3 then nI (rtN S F v t) else -1)) := by
  have b0 := hI.b0; have b3 := hI.b3
  refine g_in (cd := k_91) (nL := 6) (rc := 10) rfl (g_A (a := 8) (kd := 0) (n := 9) rfl (by decide)) (g_c1 rfl) (b_91_0 hI hL hD (by omega) ht ?_)
  refine g_upI (P := fun j => ∀ z5, gW X (d + 2) k_91 2 [some (vR 8), some (vI (nI v)), some (vI (nI t)), some (vR 11), some (vI (nI j)), z5] [] p sg _) (I := fun j => ∀ i, i < j → rtP S F v t i = false) (n := sn S 3) (a := 0) (by omega) none_below (fun j _ hj hi ih z5 => ?_) (fun hi z5 => ?_) none
  · have hu := otN_lt hI hj v
    have m := hM (otN S j v) (by omega)
    have hl := (hI.roa hj).2.2.1.2
    refine b_91_2 hI hL hD (by omega) ht (by omega) (fun h => by omega) (fun _ ho h => absurd h (nI_m1 (by omega))) (fun _ ho _ h => ih (not_below hi (rtP_f (fun c => ?_))) _) (fun _ ho _ h => ?_) (fun _ ho => ih (not_below hi (rtP_f (fun c => ho c.1))) _)
    · rw [m.1, m1_lt (by omega) (by omega)] at h
      omega
    · rw [m.1, m1_lt (by omega) (by omega)] at h
      have e : rtN S F v t = j := fnd_eq (Nat.zero_le _) (by omega) (rtP_t.mpr ⟨ho, by omega⟩) (fun i _ h9 => hi i h9)
      rw [e, if_pos hj]
  · refine b_91_2 hI hL hD (by omega) ht (by omega) (fun _ => ?_) (fun h => by omega) (fun h => by omega) (fun h => by omega) (fun h => by omega)
    rw [if_neg (fun c => ?_)]
    have h3 := (fnd_spec (rtP S F v t) (sn S 3) 0).2.2.2 (by unfold rtN at c; omega)
    unfold rtN at c
    rw [hi _ c] at h3
    cases h3

theorem b_90_v {X : Nat × (Nat → Int32)} {d : Nat} {p : Nat → Nat} {sg : Mg} {Q : am_R → Prop} {B : Nat} {S : Nat → Int32} (hI : Inv B S) (hL : cwL 250 sg S) (hD : cwD 200 sg S) {h : Nat} {k : Nat} {v : Nat} {g : Nat} (u_k : k ≤ 7) (u_v : v ≤ 5) (u_g : g ≤ 200400) (q1 : k < sn S 1) (q2 : h ≤ 5) (hh : S (113 + 6 * k) = nI h)
    (o1 : (¬ h = v) → gW X (d + 5) k_90 17 [some (vR 8), some (vI (nI k)), some (vI (nI v)), some (vI (nI g)), some (vI (nI h)), none, none, none, none] [] p sg Q)
    (o2 : (h = v) → Q (gRv p sg (-1))) :
    gW X (d + 5) k_90 0 [some (vR 8), some (vI (nI k)), some (vI (nI v)), some (vI (nI g)), none, none, none, none, none] [] p sg Q := by
  have b0 := hI.b0; have b1 := hI.b1; have b2 := hI.b2; have b3 := hI.b3; have b4 := hI.b4; have b5 := hI.b5; have b6 := hI.b6; have b7 := hI.b7; have b8 := hI.b8; have b9 := hI.b9; have b14 := hI.b14
  refine g_pure 4 (i' := 4) (lv' := [some (vR 8), some (vI (nI k)), some (vI (nI v)), some (vI (nI g)), none, none, none, none, none]) (st' := [vI (nI k), vR 252]) rfl ?_
  refine g_ald rfl (g_A (a := 252) (kd := 1) (n := 8) rfl (by decide)) (by decide) (show nI k = nI k from (rfl : nI k = nI k)) (by omega) (show _ = nI h from ((hL.per 0 (by decide) (by omega))).trans hh) ?_
  refine g_pure 3 (i' := 8) (lv' := [some (vR 8), some (vI (nI k)), some (vI (nI v)), some (vI (nI g)), some (vI (nI h)), none, none, none, none]) (st' := [vI (-1), vI (nI g)]) rfl ?_
  refine g_if2 (i' := 15) (P := nI g = (-1)) rfl rfl Iff.rfl (fun h1 => absurd h1 (nI_m1 (by omega))) (fun _ => ?_)
  refine g_pure 2 (i' := 11) (lv' := [some (vR 8), some (vI (nI k)), some (vI (nI v)), some (vI (nI g)), some (vI (nI h)), none, none, none, none]) (st' := [vI (-1), vI (nI h)]) rfl ?_
  refine g_if2 (i' := 15) (P := nI h = (-1)) rfl rfl Iff.rfl (fun h2 => absurd h2 (nI_m1 (by omega))) (fun _ => ?_)
  refine g_pure 2 (i' := 14) (lv' := [some (vR 8), some (vI (nI k)), some (vI (nI v)), some (vI (nI g)), some (vI (nI h)), none, none, none, none]) (st' := [vI (nI v), vI (nI h)]) rfl ?_
  refine g_if2 (i' := 17) (P := ¬ h = v) rfl rfl (g_neN (show nI h = nI h from (rfl : nI h = nI h)) (show nI v = nI v from (rfl : nI v = nI v)) (by omega) (by omega)) (fun h3 => ?_) (fun h3 => ?_)
  · exact o1 h3
  · have h3 := Classical.not_not.mp h3
    refine g_pure 1 (i' := 16) (lv' := [some (vR 8), some (vI (nI k)), some (vI (nI v)), some (vI (nI g)), some (vI (nI h)), none, none, none, none]) (st' := [vI (-1)]) rfl ?_
    refine g_iret rfl ?_
    exact o2 h3

theorem b_90_x {X : Nat × (Nat → Int32)} {d : Nat} {p : Nat → Nat} {sg : Mg} {Q : am_R → Prop} {B : Nat} {S : Nat → Int32} (hI : Inv B S) (hL : cwL 250 sg S) (hD : cwD 200 sg S) {k : Nat} {v : Nat} {g : Nat} (u_k : k ≤ 7) (u_v : v ≤ 5) (u_g : g ≤ 200400) (q1 : k < sn S 1) (hh : S (113 + 6 * k) = -1)
    (o1 : Q (gRv p sg (-1))) :
    gW X (d + 5) k_90 0 [some (vR 8), some (vI (nI k)), some (vI (nI v)), some (vI (nI g)), none, none, none, none, none] [] p sg Q := by
  have b0 := hI.b0; have b1 := hI.b1; have b2 := hI.b2; have b3 := hI.b3; have b4 := hI.b4; have b5 := hI.b5; have b6 := hI.b6; have b7 := hI.b7; have b8 := hI.b8; have b9 := hI.b9; have b14 := hI.b14
  refine g_pure 4 (i' := 4) (lv' := [some (vR 8), some (vI (nI k)), some (vI (nI v)), some (vI (nI g)), none, none, none, none, none]) (st' := [vI (nI k), vR 252]) rfl ?_
  refine g_ald rfl (g_A (a := 252) (kd := 1) (n := 8) rfl (by decide)) (by decide) (show nI k = nI k from (rfl : nI k = nI k)) (by omega) (show _ = (-1) from ((hL.per 0 (by decide) (by omega))).trans hh) ?_
  refine g_pure 3 (i' := 8) (lv' := [some (vR 8), some (vI (nI k)), some (vI (nI v)), some (vI (nI g)), some (vI (-1)), none, none, none, none]) (st' := [vI (-1), vI (nI g)]) rfl ?_
  refine g_if2 (i' := 15) (P := nI g = (-1)) rfl rfl Iff.rfl (fun h1 => absurd h1 (nI_m1 (by omega))) (fun _ => ?_)
  refine g_pure 2 (i' := 11) (lv' := [some (vR 8), some (vI (nI k)), some (vI (nI v)), some (vI (nI g)), some (vI (-1)), none, none, none, none]) (st' := [vI (-1), vI (-1)]) rfl ?_
  refine g_if2 (i' := 15) (P := ((-1) : Int32) = (-1)) rfl rfl Iff.rfl (fun _ => ?_) (fun h2 => absurd (by decide) h2)
  refine g_pure 1 (i' := 16) (lv' := [some (vR 8), some (vI (nI k)), some (vI (nI v)), some (vI (nI g)), some (vI (-1)), none, none, none, none]) (st' := [vI (-1)]) rfl ?_
  refine g_iret rfl ?_
  exact o1

theorem b_90_m {X : Nat × (Nat → Int32)} {d : Nat} {p : Nat → Nat} {sg : Mg} {Q : am_R → Prop} {B : Nat} {S : Nat → Int32} (hI : Inv B S) (hL : cwL 250 sg S) (hD : cwD 200 sg S) {k : Nat} {v : Nat} (u_k : k ≤ 7) (u_v : v ≤ 5) (q1 : k < sn S 1)
    (o1 : Q (gRv p sg (-1))) :
    gW X (d + 5) k_90 0 [some (vR 8), some (vI (nI k)), some (vI (nI v)), some (vI (-1)), none, none, none, none, none] [] p sg Q := by
  have b0 := hI.b0; have b1 := hI.b1; have b2 := hI.b2; have b3 := hI.b3; have b4 := hI.b4; have b5 := hI.b5; have b6 := hI.b6; have b7 := hI.b7; have b8 := hI.b8; have b9 := hI.b9; have b14 := hI.b14
  refine g_pure 4 (i' := 4) (lv' := [some (vR 8), some (vI (nI k)), some (vI (nI v)), some (vI (-1)), none, none, none, none, none]) (st' := [vI (nI k), vR 252]) rfl ?_
  refine g_ald rfl (g_A (a := 252) (kd := 1) (n := 8) rfl (by decide)) (by decide) (show nI k = nI k from (rfl : nI k = nI k)) (by omega) (show _ = S (113 + 6 * k) from (hL.per 0 (by decide) (by omega))) ?_
  refine g_pure 3 (i' := 8) (lv' := [some (vR 8), some (vI (nI k)), some (vI (nI v)), some (vI (-1)), some (vI (S (113 + 6 * k))), none, none, none, none]) (st' := [vI (-1), vI (-1)]) rfl ?_
  refine g_if2 (i' := 15) (P := ((-1) : Int32) = (-1)) rfl rfl Iff.rfl (fun _ => ?_) (fun h1 => absurd (by decide) h1)
  refine g_pure 1 (i' := 16) (lv' := [some (vR 8), some (vI (nI k)), some (vI (nI v)), some (vI (-1)), some (vI (S (113 + 6 * k))), none, none, none, none]) (st' := [vI (-1)]) rfl ?_
  refine g_iret rfl ?_
  exact o1

theorem b_90_23 {X : Nat × (Nat → Int32)} {d : Nat} {p : Nat → Nat} {sg : Mg} {Q : am_R → Prop} {B : Nat} {S : Nat → Int32} (hI : Inv B S) (hL : cwL 250 sg S) (hD : cwD 200 sg S) {k : Nat} {v : Nat} {g : Nat} {h : Nat} {z6 : Option AV} {z7 : Option AV} {z8 : Option AV} (u_k : k ≤ 7) (u_v : v ≤ 5) (u_g : g ≤ 200400) (u_h : h ≤ 5)
    (o1 : ∀ s1 : Mg, s1 = mu sg 11 v (nI g) → gW X (d + 5) k_90 31 [some (vR 8), some (vI (nI k)), some (vI (nI v)), some (vI (nI g)), some (vI (nI h)), some (vR 11), some (vI (nI g - 1)), z7, z8] [] p s1 Q) :
    gW X (d + 5) k_90 23 [some (vR 8), some (vI (nI k)), some (vI (nI v)), some (vI (nI g)), some (vI (nI h)), some (vR 11), z6, z7, z8] [] p sg Q := by
  have b0 := hI.b0; have b1 := hI.b1; have b2 := hI.b2; have b3 := hI.b3; have b4 := hI.b4; have b5 := hI.b5; have b6 := hI.b6; have b7 := hI.b7; have b8 := hI.b8; have b9 := hI.b9; have b14 := hI.b14
  refine g_pure 3 (i' := 26) (lv' := [some (vR 8), some (vI (nI k)), some (vI (nI v)), some (vI (nI g)), some (vI (nI h)), some (vR 11), z6, z7, z8]) (st' := [vI (nI g), vI (nI v), vR 11]) rfl ?_
  refine g_ast rfl (g_A (a := 11) (kd := 1) (n := 6) rfl (by decide)) (by decide) (show nI v = nI v from (rfl : nI v = nI v)) (by omega) ?_
  refine g_setv (fun s1 es1 => ?_)
  have hLs1 : cwL 250 s1 S := by rw [es1]; exact hL.out (by decide)
  have hDs1 : cwD 200 s1 S := by rw [es1]; exact hD.out (by decide)
  refine g_pure 4 (i' := 31) (lv' := [some (vR 8), some (vI (nI k)), some (vI (nI v)), some (vI (nI g)), some (vI (nI h)), some (vR 11), some (vI (nI g - 1)), z7, z8]) (st' := []) rfl ?_
  exact o1 s1 es1

theorem b_90_e {X : Nat × (Nat → Int32)} {d : Nat} {p : Nat → Nat} {sg : Mg} {Q : am_R → Prop} {B : Nat} {S : Nat → Int32} (hI : Inv B S) (hL : cwL 250 sg S) (hD : cwD 200 sg S) {k : Nat} {z2 : Option AV} {z3 : Option AV} {h : Nat} {q : Int32} {z7 : Option AV} {z8 : Option AV} (u_k : k ≤ 7) (u_h : h ≤ 5) (hq : q < S 8)
    (o1 : Q (gRv p sg (-1))) :
    gW X (d + 5) k_90 31 [some (vR 8), some (vI (nI k)), z2, z3, some (vI (nI h)), some (vR 11), some (vI q), z7, z8] [] p sg Q := by
  have b0 := hI.b0; have b1 := hI.b1; have b2 := hI.b2; have b3 := hI.b3; have b4 := hI.b4; have b5 := hI.b5; have b6 := hI.b6; have b7 := hI.b7; have b8 := hI.b8; have b9 := hI.b9; have b14 := hI.b14
  refine g_pure 3 (i' := 34) (lv' := [some (vR 8), some (vI (nI k)), z2, z3, some (vI (nI h)), some (vR 11), some (vI q), z7, z8]) (st' := [vR 250, vI q]) rfl ?_
  refine g_getI rfl (g_A (a := 250) (kd := 0) (n := 6) rfl (by decide)) (show _ = S 8 from hL.f12) ?_
  refine g_if2 (i' := 80) (P := q < S 8) rfl rfl Iff.rfl (fun _ => ?_) (fun h1 => absurd hq h1)
  refine g_pure 1 (i' := 81) (lv' := [some (vR 8), some (vI (nI k)), z2, z3, some (vI (nI h)), some (vR 11), some (vI q), z7, z8]) (st' := [vI (-1)]) rfl ?_
  refine g_iret rfl ?_
  exact o1

theorem b_90_31 {X : Nat × (Nat → Int32)} {d : Nat} {p : Nat → Nat} {sg : Mg} {Q : am_R → Prop} {B : Nat} {S : Nat → Int32} (hI : Inv B S) (hL : cwL 250 sg S) (hD : cwD 200 sg S) {k : Nat} {z2 : Option AV} {z3 : Option AV} {h : Nat} {t : Nat} {z7 : Option AV} {z8 : Option AV} (u_k : k ≤ 7) (u_h : h ≤ 5) (u_t : t ≤ 200400) (q1 : sn S 8 ≤ t)
    (o1 : gW X (d + 5) k_90 38 [some (vR 8), some (vI (nI k)), z2, z3, some (vI (nI h)), some (vR 11), some (vI (nI t)), some (vI 0), z8] [] p sg Q) :
    gW X (d + 5) k_90 31 [some (vR 8), some (vI (nI k)), z2, z3, some (vI (nI h)), some (vR 11), some (vI (nI t)), z7, z8] [] p sg Q := by
  have b0 := hI.b0; have b1 := hI.b1; have b2 := hI.b2; have b3 := hI.b3; have b4 := hI.b4; have b5 := hI.b5; have b6 := hI.b6; have b7 := hI.b7; have b8 := hI.b8; have b9 := hI.b9; have b14 := hI.b14
  refine g_pure 3 (i' := 34) (lv' := [some (vR 8), some (vI (nI k)), z2, z3, some (vI (nI h)), some (vR 11), some (vI (nI t)), z7, z8]) (st' := [vR 250, vI (nI t)]) rfl ?_
  refine g_getI rfl (g_A (a := 250) (kd := 0) (n := 6) rfl (by decide)) (show _ = S 8 from hL.f12) ?_
  refine g_if2 (i' := 80) (P := t < sn S 8) rfl rfl (g_ltN (show nI t = nI t from (rfl : nI t = nI t)) (show S 8 = nI (sn S 8) from (hI.c8)) (by omega) (by omega)) (fun h1 => absurd h1 (by omega)) (fun _ => ?_)
  refine g_pure 2 (i' := 38) (lv' := [some (vR 8), some (vI (nI k)), z2, z3, some (vI (nI h)), some (vR 11), some (vI (nI t)), some (vI 0), z8]) (st' := []) rfl ?_
  exact o1

theorem b_90_38 {X : Nat × (Nat → Int32)} {d : Nat} {p : Nat → Nat} {sg : Mg} {Q : am_R → Prop} {B : Nat} {S : Nat → Int32} (hI : Inv B S) (hL : cwL 250 sg S) (hD : cwD 200 sg S) {k : Nat} {z2 : Option AV} {z3 : Option AV} {h : Nat} {t : Nat} {j : Nat} {z8 : Option AV} (u_k : k ≤ 7) (u_h : h ≤ 5) (u_t : t ≤ 200400) (u_j : j ≤ 6) (q1 : sn S 8 ≤ t)
    (o1 : (sn S 0 ≤ j) → gW X (d + 5) k_90 31 [some (vR 8), some (vI (nI k)), z2, z3, some (vI (nI h)), some (vR 11), some (vI (nI t + -1)), some (vI (nI j)), z8] [] p sg Q)
    (o2 : (¬ (sn S 0 ≤ j)) → (¬ sg 11 j = (-1)) → gW X (d + 5) k_90 58 [some (vR 8), some (vI (nI k)), z2, z3, some (vI (nI h)), some (vR 11), some (vI (nI t)), some (vI (nI j)), some (vI (-1))] [] p sg Q)
    (o3 : (¬ (sn S 0 ≤ j)) → (sg 11 j = (-1)) → gW X (d + 5) k_90 50 [some (vR 8), some (vI (nI k)), z2, z3, some (vI (nI h)), some (vR 11), some (vI (nI t)), some (vI (nI j)), z8] [] p sg Q) :
    gW X (d + 5) k_90 38 [some (vR 8), some (vI (nI k)), z2, z3, some (vI (nI h)), some (vR 11), some (vI (nI t)), some (vI (nI j)), z8] [] p sg Q := by
  have b0 := hI.b0; have b1 := hI.b1; have b2 := hI.b2; have b3 := hI.b3; have b4 := hI.b4; have b5 := hI.b5; have b6 := hI.b6; have b7 := hI.b7; have b8 := hI.b8; have b9 := hI.b9; have b14 := hI.b14
  refine g_pure 5 (i' := 43) (lv' := [some (vR 8), some (vI (nI k)), z2, z3, some (vI (nI h)), some (vR 11), some (vI (nI t)), some (vI (nI j)), z8]) (st' := [vI 0, vR 203, vI (nI j)]) rfl ?_
  refine g_ald rfl (g_A (a := 203) (kd := 1) (n := 6) rfl (by decide)) (by decide) (show 0 = nI 0 from (show (0 : Int32) = nI 0 from rfl)) (by decide) (show _ = S 0 from (hD.cnt (by decide))) ?_
  refine g_if2 (i' := 78) (P := sn S 0 ≤ j) rfl rfl (g_geN (show nI j = nI j from (rfl : nI j = nI j)) (show S 0 = nI (sn S 0) from (hI.c0)) (by omega) (by omega)) (fun h1 => ?_) (fun h1 => ?_)
  · refine g_pure 2 (i' := 31) (lv' := [some (vR 8), some (vI (nI k)), z2, z3, some (vI (nI h)), some (vR 11), some (vI (nI t + -1)), some (vI (nI j)), z8]) (st' := []) rfl ?_
    exact o1 h1
  · refine g_pure 2 (i' := 47) (lv' := [some (vR 8), some (vI (nI k)), z2, z3, some (vI (nI h)), some (vR 11), some (vI (nI t)), some (vI (nI j)), z8]) (st' := [vI (nI j), vR 11]) rfl ?_
    refine g_ald rfl (g_A (a := 11) (kd := 1) (n := 6) rfl (by decide)) (by decide) (show nI j = nI j from (rfl : nI j = nI j)) (by omega) (show _ = sg 11 j from rfl) ?_
    refine g_pure 1 (i' := 49) (lv' := [some (vR 8), some (vI (nI k)), z2, z3, some (vI (nI h)), some (vR 11), some (vI (nI t)), some (vI (nI j)), z8]) (st' := [vI (-1), vI (sg 11 j)]) rfl ?_
    refine g_if2 (i' := 56) (P := ¬ sg 11 j = (-1)) rfl rfl Iff.rfl (fun h2 => ?_) (fun h2 => ?_)
    · refine g_pure 2 (i' := 58) (lv' := [some (vR 8), some (vI (nI k)), z2, z3, some (vI (nI h)), some (vR 11), some (vI (nI t)), some (vI (nI j)), some (vI (-1))]) (st' := []) rfl ?_
      exact o2 h1 h2
    · have h2 := Classical.not_not.mp h2
      exact o3 h1 h2

theorem b_90_n {X : Nat × (Nat → Int32)} {d : Nat} {p : Nat → Nat} {sg : Mg} {Q : am_R → Prop} {B : Nat} {S : Nat → Int32} (hI : Inv B S) (hL : cwL 250 sg S) (hD : cwD 200 sg S) {k : Nat} {z2 : Option AV} {z3 : Option AV} {h : Nat} {t : Nat} {j : Nat} (u_k : k ≤ 7) (u_h : h ≤ 5) (u_t : t ≤ 200400) (u_j : j ≤ 5)
    (o1 : gW X (d + 5) k_90 38 [some (vR 8), some (vI (nI k)), z2, z3, some (vI (nI h)), some (vR 11), some (vI (nI t)), some (vI (nI (j + 1))), some (vI (-1))] [] p sg Q) :
    gW X (d + 5) k_90 58 [some (vR 8), some (vI (nI k)), z2, z3, some (vI (nI h)), some (vR 11), some (vI (nI t)), some (vI (nI j)), some (vI (-1))] [] p sg Q := by
  have b0 := hI.b0; have b1 := hI.b1; have b2 := hI.b2; have b3 := hI.b3; have b4 := hI.b4; have b5 := hI.b5; have b6 := hI.b6; have b7 := hI.b7; have b8 := hI.b8; have b9 := hI.b9; have b14 := hI.b14
  refine g_pure 2 (i' := 60) (lv' := [some (vR 8), some (vI (nI k)), z2, z3, some (vI (nI h)), some (vR 11), some (vI (nI t)), some (vI (nI j)), some (vI (-1))]) (st' := [vI (-1), vI (-1)]) rfl ?_
  refine g_if2 (i' := 76) (P := ((-1) : Int32) = (-1)) rfl rfl Iff.rfl (fun _ => ?_) (fun h1 => absurd (by decide) h1)
  refine g_pure 2 (i' := 38) (lv' := [some (vR 8), some (vI (nI k)), z2, z3, some (vI (nI h)), some (vR 11), some (vI (nI t)), some (vI (nI j + 1)), some (vI (-1))]) (st' := []) rfl ?_
  refine gW_eq (lv' := [some (vR 8), some (vI (nI k)), z2, z3, some (vI (nI h)), some (vR 11), some (vI (nI t)), some (vI (nI (j + 1))), some (vI (-1))]) (st' := []) (by rw [(show (nI j + 1) = nI (j + 1) from ((g_add (rfl : nI j = nI j) (show (1 : Int32) = nI 1 from rfl))).trans (congrArg nI (by omega)))]) rfl rfl ?_
  exact o1

theorem b_90_r {X : Nat × (Nat → Int32)} {d : Nat} {p : Nat → Nat} {sg : Mg} {Q : am_R → Prop} {B : Nat} {S : Nat → Int32} (hI : Inv B S) (hL : cwL 250 sg S) (hD : cwD 200 sg S) (hW : LW S sg) (hB : bOK S sg) {k : Nat} {z2 : Option AV} {z3 : Option AV} {h : Nat} {t : Nat} {j : Nat} {r : Nat} (u_k : k ≤ 7) (u_h : h ≤ 5) (u_t : t ≤ 200400) (u_j : j ≤ 5) (u_r : r ≤ 11) (q1 : k < sn S 1) (q2 : j < sn S 0) (q3 : sn S 8 ≤ t) (q4 : t ≤ sn S 8 + 400)
    (o1 : ∀ s2 : Mg, (WF sg s2 ∧ bOK S s2) → (bd S k j t = true) → gW X (d + 5) k_90 38 [some (vR 8), some (vI (nI k)), z2, z3, some (vI (nI h)), some (vR 11), some (vI (nI t)), some (vI (nI (j + 1))), some (vI (nI r))] [] p s2 Q)
    (o2 : ∀ s2 : Mg, (WF sg s2 ∧ bOK S s2) → (¬ (bd S k j t = true)) → (¬ j = h) → ∀ s5 : Mg, s5 = mu s2 11 j (nI t) → gW X (d + 5) k_90 38 [some (vR 8), some (vI (nI k)), z2, z3, some (vI (nI h)), some (vR 11), some (vI (nI t)), some (vI (nI (j + 1))), some (vI (nI r))] [] p s5 Q)
    (o3 : ∀ s2 : Mg, (WF sg s2 ∧ bOK S s2) → (¬ (bd S k j t = true)) → (j = h) → Q (gRv p s2 (nI r))) :
    gW X (d + 5) k_90 58 [some (vR 8), some (vI (nI k)), z2, z3, some (vI (nI h)), some (vR 11), some (vI (nI t)), some (vI (nI j)), some (vI (nI r))] [] p sg Q := by
  have b0 := hI.b0; have b1 := hI.b1; have b2 := hI.b2; have b3 := hI.b3; have b4 := hI.b4; have b5 := hI.b5; have b6 := hI.b6; have b7 := hI.b7; have b8 := hI.b8; have b9 := hI.b9; have b14 := hI.b14
  refine g_pure 2 (i' := 60) (lv' := [some (vR 8), some (vI (nI k)), z2, z3, some (vI (nI h)), some (vR 11), some (vI (nI t)), some (vI (nI j)), some (vI (nI r))]) (st' := [vI (-1), vI (nI r)]) rfl ?_
  refine g_if2 (i' := 76) (P := nI r = (-1)) rfl rfl Iff.rfl (fun h1 => absurd h1 (nI_m1 (by omega))) (fun _ => ?_)
  refine g_pure 4 (i' := 65) (lv' := [some (vR 8), some (vI (nI k)), z2, z3, some (vI (nI h)), some (vR 11), some (vI (nI t)), some (vI (nI j)), some (vI (nI r))]) (st' := [vI (nI t), vI (nI j), vI (nI k), vR 8]) rfl ?_
  refine g_cV1E rfl (args := [vR 8, vI (nI k), vI (nI j), vI (nI t)]) (rest := []) rfl rfl rfl (s_88 (d := d) hI hL hD hW hB (by omega) (by omega) (by omega) (by omega)) (fun s2 es2 => ?_)
  have hLs2 : cwL 250 s2 S := (hL).eqc (fun c h1 h2 => es2.1 c (by omega) (by omega) (by omega))
  have hDs2 : cwD 200 s2 S := (hD).eqc (fun c h1 => es2.1 c (by omega) (by omega) (by omega))
  have hWs2 : LW S s2 := (hW).eqc (fun c h1 h2 => es2.1 c (by omega) (by omega) (by omega))
  refine g_if1 (i' := 76) (P := bd S k j t = true) rfl rfl g_neB (fun h3 => ?_) (fun h3 => ?_)
  · refine g_pure 2 (i' := 38) (lv' := [some (vR 8), some (vI (nI k)), z2, z3, some (vI (nI h)), some (vR 11), some (vI (nI t)), some (vI (nI j + 1)), some (vI (nI r))]) (st' := []) rfl ?_
    refine gW_eq (lv' := [some (vR 8), some (vI (nI k)), z2, z3, some (vI (nI h)), some (vR 11), some (vI (nI t)), some (vI (nI (j + 1))), some (vI (nI r))]) (st' := []) (by rw [(show (nI j + 1) = nI (j + 1) from ((g_add (rfl : nI j = nI j) (show (1 : Int32) = nI 1 from rfl))).trans (congrArg nI (by omega)))]) rfl rfl ?_
    exact o1 s2 es2 h3
  · refine g_pure 2 (i' := 69) (lv' := [some (vR 8), some (vI (nI k)), z2, z3, some (vI (nI h)), some (vR 11), some (vI (nI t)), some (vI (nI j)), some (vI (nI r))]) (st' := [vI (nI h), vI (nI j)]) rfl ?_
    refine g_if2 (i' := 72) (P := ¬ j = h) rfl rfl (g_neN (show nI j = nI j from (rfl : nI j = nI j)) (show nI h = nI h from (rfl : nI h = nI h)) (by omega) (by omega)) (fun h4 => ?_) (fun h4 => ?_)
    · refine g_pure 3 (i' := 75) (lv' := [some (vR 8), some (vI (nI k)), z2, z3, some (vI (nI h)), some (vR 11), some (vI (nI t)), some (vI (nI j)), some (vI (nI r))]) (st' := [vI (nI t), vI (nI j), vR 11]) rfl ?_
      refine g_ast rfl (g_A (a := 11) (kd := 1) (n := 6) rfl (by decide)) (by decide) (show nI j = nI j from (rfl : nI j = nI j)) (by omega) ?_
      refine g_setv (fun s5 es5 => ?_)
      have hWs5 : LW S s5 := (hWs2).eqc (fun c c1 c2 => by rw [es5, mu_ne (by omega)])
      have hBs5 : bOK S s5 := by rw [es5]; exact es2.2.out (by decide)
      have hLs5 : cwL 250 s5 S := by rw [es5]; exact hLs2.out (by decide)
      have hDs5 : cwD 200 s5 S := by rw [es5]; exact hDs2.out (by decide)
      refine g_pure 2 (i' := 38) (lv' := [some (vR 8), some (vI (nI k)), z2, z3, some (vI (nI h)), some (vR 11), some (vI (nI t)), some (vI (nI j + 1)), some (vI (nI r))]) (st' := []) rfl ?_
      refine gW_eq (lv' := [some (vR 8), some (vI (nI k)), z2, z3, some (vI (nI h)), some (vR 11), some (vI (nI t)), some (vI (nI (j + 1))), some (vI (nI r))]) (st' := []) (by rw [(show (nI j + 1) = nI (j + 1) from ((g_add (rfl : nI j = nI j) (show (1 : Int32) = nI 1 from rfl))).trans (congrArg nI (by omega)))]) rfl rfl ?_
      exact o2 s2 es2 h3 h4 s5 es5
    · have h4 := Classical.not_not.mp h4
      refine g_pure 1 (i' := 71) (lv' := [some (vR 8), some (vI (nI k)), z2, z3, some (vI (nI h)), some (vR 11), some (vI (nI t)), some (vI (nI j)), some (vI (nI r))]) (st' := [vI (nI r)]) rfl ?_
      refine g_iret rfl ?_
      exact o3 s2 es2 h3 h4

/-- what holds as the times go back -/
def lsI (S : Nat → Int32) (k g w : Nat) (F : Nat → Nat) (t j : Nat) : Prop := (∀ u, u < sn S 0 → F u ≠ 0 → t < F u ∧ F u ≤ g + 1 ∧ Led S k g w (F u - 1) u) ∧ ∀ u, u < sn S 0 → ∀ T, (t < T ∨ (T = t ∧ u < j)) → Led S k g w T u → T < F u
theorem lsI.led {S : Nat → Int32} {k g w t j : Nat} {F : Nat → Nat} (h : lsI S k g w F t j) {u T : Nat} (hu : u < sn S 0) (hT : T < F u) : Led S k g w T u := (h.1 u hu (by omega)).2.2.mono (by omega)
theorem lsI.skip {S : Nat → Int32} {k g w t j : Nat} {F : Nat → Nat} (h : lsI S k g w F t j) (hn : Led S k g w t j → t < F j) : lsI S k g w F t (j + 1) := by
  refine ⟨h.1, fun u hu T hT hL => ?_⟩
  by_cases e : T = t ∧ u = j
  · obtain ⟨rfl, rfl⟩ := e
    exact hn hL
  · exact h.2 u hu T (by omega) hL
theorem lsI.take {S : Nat → Int32} {k g w t j : Nat} {F : Nat → Nat} (h : lsI S k g w F t j) (ht : t < g) (hF : F j = 0) (hL : Led S k g w t j) : lsI S k g w (fun i => if i = j then t + 1 else F i) t (j + 1) := by
  refine ⟨fun u hu h0 => ?_, fun u hu T hT hT2 => ?_⟩
  · dsimp only at h0 ⊢
    by_cases e : u = j
    · subst e
      rw [if_pos rfl]
      exact ⟨by omega, by omega, hL⟩
    · rw [if_neg e] at h0 ⊢
      exact h.1 u hu h0
  · dsimp only
    by_cases e : u = j
    · subst e
      rw [if_pos rfl]
      by_cases e2 : t < T
      · have := h.2 u hu T (Or.inl e2) hT2
        omega
      · omega
    · rw [if_neg e]
      exact h.2 u hu T (by omega) hT2
theorem lsI.next {S : Nat → Int32} {k g w t : Nat} {F : Nat → Nat} (h : lsI S k g w F t (sn S 0)) : ∀ t', t = t' + 1 → lsI S k g w F t' 0 := by
  intro t' e
  subst e
  refine ⟨fun u hu h0 => ?_, fun u hu T hT hL => h.2 u hu T (by omega) hL⟩
  have := h.1 u hu h0
  exact ⟨by omega, this.2⟩
/-- nothing leads on from a place: there is no road in time, or one is barred -/
theorem lsI.none {B : Nat} {S : Nat → Int32} (hI : Inv B S) {k g w t j : Nat} {F : Nat → Nat} (h : lsI S k g w F t j) (ht : t < g) (hj : j < sn S 0) (hF : F j = 0) (hn : (∀ r, r < sn S 3 → rtP S F j t r = false) ∨ bd S k j t = true) : ¬ Led S k g w t j := by
  intro hL
  rcases hL.cases with ⟨e, _⟩ | h9 | ⟨r, hr, ho, hb, h9⟩
  · omega
  · have := h.2 j hj (t + 1) (by omega) h9
    omega
  · rcases hn with h1 | h1
    · have hl := (hI.roa hr).2.2.2.1
      have h2 := h.2 _ (otN_lt hI hr j) _ (Or.inl (by omega)) h9
      have h3 := h1 r hr
      rw [rtP_t.mpr ⟨ho, h2⟩] at h3
      cases h3
    · rw [h1] at hb; cases hb
theorem rtN_ok {S : Nat → Int32} {F : Nat → Nat} {v t : Nat} : (rtN S F v t < sn S 3 → rtP S F v t (rtN S F v t) = true ∧ ∀ q, q < rtN S F v t → rtP S F v t q = false) ∧ (¬ rtN S F v t < sn S 3 → ∀ q, q < sn S 3 → rtP S F v t q = false) := by
  have h := fnd_spec (rtP S F v t) (sn S 3) 0
  unfold rtN
  exact ⟨fun c => ⟨h.2.2.2 (by omega), fun q hq => h.2.2.1 q (Nat.zero_le _) hq⟩, fun c q hq => h.2.2.1 q (Nat.zero_le _) (by omega)⟩
theorem l_90_38 {X : Nat × (Nat → Int32)} {d : Nat} {p : Nat → Nat} {sg : Mg} {B : Nat} {S : Nat → Int32} (hI : Inv B S) (hL : cwL 250 sg S) (hD : cwD 200 sg S) (hW : LW S sg) (hB : bOK S sg) {Q : am_R → Prop} {k g w h t : Nat} {F : Nat → Nat} (hk : k < sn S 1) (hh : h < sn S 0) (hg : g ≤ sn S 8 + 200) (h8 : sn S 8 ≤ t) (ht : t < g) (hM : laM sg F) (hP : lsI S k g w F t 0) (hF : F h = 0) {z2 z3 z8 : Option AV}
    (xr : ∀ s, WY sg s → Q (gRv p s (firV S k g w h)))
    (x : ∀ s F z7 z8, WY sg s → bOK S s → laM s F → lsI S k g w F t (sn S 0) → F h = 0 → gW X (d + 5) k_90 31 [some (vR 8), some (vI (nI k)), z2, z3, some (vI (nI h)), some (vR 11), some (vI (nI t - 1)), z7, z8] [] p s Q) :
    gW X (d + 5) k_90 38 [some (vR 8), some (vI (nI k)), z2, z3, some (vI (nI h)), some (vR 11), some (vI (nI t)), some (vI (nI 0)), z8] [] p sg Q := by
  have b0 := hI.b0; have b1 := hI.b1; have b3 := hI.b3; have b8 := hI.b8
  have key := g_upI (P := fun j => ∀ s F z8, WY sg s → bOK S s → laM s F → lsI S k g w F t j → F h = 0 → gW X (d + 5) k_90 38 [some (vR 8), some (vI (nI k)), z2, z3, some (vI (nI h)), some (vR 11), some (vI (nI t)), some (vI (nI j)), z8] [] p s Q) (I := fun _ => True) (n := sn S 0) (a := 0) (by omega) trivial ?_ ?_
  · exact key sg F z8 (WY.rf _) hB hM hP hF
  · intro j _ hj _ ih s F z8 hs hB hM hP hF
    have ih := ih trivial
    have m := hM j (by omega)
    refine b_90_38 hI (hs.L hL) (hs.D hD) (by omega) (by omega) (by omega) (by omega) h8 (fun h => by omega) (fun _ h9 => ?_) (fun _ h9 => ?_)
    · rw [m.1, m1_eq (by omega)] at h9
      exact b_90_n hI (hs.L hL) (hs.D hD) (by omega) (by omega) (by omega) (by omega) (ih _ _ _ hs hB hM (hP.skip (fun _ => (hP.1 j hj h9).1)) hF)
    · rw [m.1, m1_eq (by omega)] at h9
      refine g_pure 4 (i' := 54) (lv' := [some (vR 8), some (vI (nI k)), z2, z3, some (vI (nI h)), some (vR 11), some (vI (nI t)), some (vI (nI j)), z8]) (st' := [vR 11, vI (nI t), vI (nI j), vR 8]) rfl ?_
      refine g_cV1 rfl (args := [vR 8, vI (nI j), vI (nI t), vR 11]) (rest := []) rfl rfl rfl (s_91 (d := d + 2) hI (hs.L hL) (hs.D hD) hj (by omega) hM) ?_
      obtain ⟨n1, n2⟩ := rtN_ok (S := S) (F := F) (v := j) (t := t)
      by_cases c : rtN S F j t < sn S 3
      · rw [if_pos c]
        obtain ⟨n3, n4⟩ := n1 c
        generalize rtN S F j t = r at c n3 n4
        obtain ⟨ro, rl⟩ := rtP_t.mp n3
        have hle := hP.led (otN_lt hI c j) rl
        refine g_pure 2 (i' := 58) (lv' := [some (vR 8), some (vI (nI k)), z2, z3, some (vI (nI h)), some (vR 11), some (vI (nI t)), some (vI (nI j)), some (vI (nI r))]) (st' := []) rfl ?_
        refine b_90_r hI (hs.L hL) (hs.D hD) (hs.W hW) hB (by omega) (by omega) (by omega) (by omega) (by omega) hk hj h8 (by omega) (fun s2 g2 hb => ?_) (fun s2 g2 hb hne s5 e5 => ?_) (fun s2 g2 hb he => ?_)
        all_goals
          have w2 : WY sg s2 := hs.tr (WY.sf (SF.wf g2.1))
          have hM2 : laM s2 F := hM.eq (g2.1 11 (by decide) (by decide) (by decide))
        · exact ih _ _ _ w2 g2.2 hM2 (hP.skip (fun hL => absurd hL (hP.none hI ht hj h9 (Or.inr hb)))) hF
        · have hb : bd S k j t = false := by simpa using hb
          refine ih s5 (fun i => if i = j then t + 1 else F i) _ (w2.tr (fun c c1 _ _ _ => by rw [e5, mu_ne (by omega)])) (by rw [e5]; exact g2.2.out (by decide)) (by rw [e5]; exact hM2.up (by omega)) (hP.take ht h9 (hle.go hb c ro)) ?_
          rw [if_neg (fun e => hne e.symm)]
          exact hF
        · have hb : bd S k j t = false := by simpa using hb
          subst he
          have := firV_at (S := S) (k := k) (g := g) (w := w) (h := j) (T := t) (r := r) h8 ht c (okR_t.mpr ⟨ro, hle, hb⟩) (fun q hq => okR_f (fun g => ?_)) (fun U hU hU2 q hq => okR_f (fun g => ?_))
          · rw [← this]; exact xr s2 w2
          · have h3 := n4 q hq
            have hl := (hI.roa (show q < sn S 3 by omega)).2.2.2.1
            rw [rtP_t.mpr ⟨g.1, hP.2 _ (otN_lt hI (by omega) j) _ (Or.inl (by omega)) g.2.1⟩] at h3
            cases h3
          · have := hP.2 j hj U (Or.inl hU) (g.2.1.go g.2.2 hq g.1)
            omega
      · rw [if_neg c]
        refine g_pure 2 (i' := 58) (lv' := [some (vR 8), some (vI (nI k)), z2, z3, some (vI (nI h)), some (vR 11), some (vI (nI t)), some (vI (nI j)), some (vI (-1))]) (st' := []) rfl ?_
        exact b_90_n hI (hs.L hL) (hs.D hD) (by omega) (by omega) (by omega) (by omega) (ih _ _ _ hs hB hM (hP.skip (fun hL => absurd hL (hP.none hI ht hj h9 (Or.inl (n2 c))))) hF)
  · intro _ s F z8 hs hB hM hP hF
    refine b_90_38 hI (hs.L hL) (hs.D hD) (by omega) (by omega) (by omega) (by omega) h8 (fun _ => ?_) (fun h => by omega) (fun h => by omega)
    rw [show nI t + -1 = nI t - 1 from (Int32.sub_eq_add_neg _ _).symm]
    exact x s F _ z8 hs hB hM hP hF
theorem s_90 {X : Nat × (Nat → Int32)} {d : Nat} {p : Nat → Nat} {sg : Mg} {B : Nat} {S : Nat → Int32} (hI : Inv B S) (hL : cwL 250 sg S) (hD : cwD 200 sg S) (hW : LW S sg) (hB : bOK S sg) {k g w h : Nat} (hk : k < sn S 1) (hw : w < sn S 0) (h8 : sn S 8 ≤ g) (hg : g ≤ sn S 8 + 200) (hh : S (113 + 6 * k) = nI h) (hh0 : h < sn S 0) (hne : ¬ h = w) : gF X (d + 6) 90 [vR 8, vI (nI k), vI (nI w), vI (nI g)] p sg (fun r => ∃ s, WY sg s ∧ r = gRv p s (firV S k g w h)) := by
  have b0 := hI.b0; have b1 := hI.b1; have b8 := hI.b8
  refine g_in (cd := k_90) (nL := 9) (rc := 10) rfl (g_A (a := 8) (kd := 0) (n := 9) rfl (by decide)) (g_c1 rfl) (b_90_v hI hL hD (by omega) (by omega) (by omega) hk (by omega) hh (fun _ => ?_) (fun e => absurd e hne))
  refine g_pure 5 (i' := 22) (lv' := [some (vR 8), some (vI (nI k)), some (vI (nI w)), some (vI (nI g)), some (vI (nI h)), some (vR 11), none, none, none]) (st' := [vI (-1), vR 11]) rfl ?_
  refine g_calS rfl (args := [vR 11, vI (-1)]) (rest := []) rfl rfl (Nat.zero_le _) (s_318 (d := d + 4) (g_A (a := 11) (kd := 1) (n := 6) rfl (by decide)) (by omega)) (fun q hq => ?_)
  obtain ⟨s1, g1, rfl⟩ := hq
  refine gK_0 ?_
  have w1 : WY sg s1 := fun c c1 _ _ _ => g1.1 c (by omega)
  have hB1 : bOK S s1 := hB.eq (g1.1 8 (by decide)) (g1.1 9 (by decide))
  have hM1 : laM s1 (fun _ => 0) := fun u hu => ⟨g1.2 u hu, Nat.zero_le _⟩
  refine b_90_23 hI (w1.L hL) (w1.D hD) (by omega) (by omega) (by omega) (by omega) (fun s2 e2 => ?_)
  have w2 : WY sg s2 := w1.tr (fun c c1 _ _ _ => by rw [e2, mu_ne (by omega)])
  have hB2 : bOK S s2 := by rw [e2]; exact hB1.out (by decide)
  have hM2 := hM1.up (u := w) (show g ≤ 200401 by omega)
  rw [← e2] at hM2
  -- times go back
  have key := g_upI (P := fun i => ∀ s F z7 z8, WY sg s → bOK S s → laM s F → (∀ t, g - i = t + 1 → lsI S k g w F t 0) → F h = 0 → (∀ u, u < sn S 0 → ∀ T, g - i ≤ T → Led S k g w T u → T < F u) → gW X (d + 5) k_90 31 [some (vR 8), some (vI (nI k)), some (vI (nI w)), some (vI (nI g)), some (vI (nI h)), some (vR 11), some (vI (nI (g - i) - 1)), z7, z8] [] p s (fun r => ∃ s, WY sg s ∧ r = gRv p s (firV S k g w h))) (I := fun _ => True) (n := g - sn S 8) (a := 0) (by omega) trivial ?_ ?_
  · have q0 : ∀ u, u < sn S 0 → ∀ T, g ≤ T → Led S k g w T u → T < (fun i => if i = w then g + 1 else 0) u := fun u hu T hT hL => by
      have h1 := hL.le
      have e : T = g := by omega
      subst e
      dsimp only
      rcases hL.cases with ⟨_, e⟩ | h9 | ⟨r, hr, ho, hb, h9⟩
      · rw [if_pos e]; omega
      · have := h9.le; omega
      · have := h9.le; have := (hI.roa hr).2.2.2.1; omega
    refine key s2 _ none none w2 hB2 hM2 (fun t e => ⟨fun u hu h0 => ?_, fun u hu T hT hL => q0 u hu T (by omega) hL⟩) (if_neg hne) (fun u hu T hT hL => q0 u hu T (by omega) hL)
    dsimp only at h0 ⊢
    by_cases e2 : u = w
    · subst e2
      rw [if_pos rfl]
      exact ⟨by omega, by omega, Led.base⟩
    · rw [if_neg e2] at h0
      exact absurd rfl h0
  · intro i _ hi _ ih s F z7 z8 hs hB hM hP hF hQ
    have ih := ih trivial
    have hP := hP (g - i - 1) (by omega)
    rw [show nI (g - i) - 1 = nI (g - i - 1) from nI_sub (b := 1) (by omega)]
    refine b_90_31 hI (hs.L hL) (hs.D hD) (by omega) (by omega) (by omega) (by omega) ?_
    refine l_90_38 hI (hs.L hL) (hs.D hD) (hs.W hW) hB hk hh0 hg (by omega) (by omega) hM hP hF (fun s' h' => ⟨s', hs.tr h', rfl⟩) (fun s' F' z7 z8 hs' hB' hM' hP' hF' => ?_)
    have := ih s' F' z7 z8 (hs.tr hs') hB' hM' (fun t e => hP'.next t (by omega)) hF' (fun u hu T hT hL => hP'.2 u hu T (by omega) hL)
    rw [show g - (i + 1) = g - i - 1 by omega] at this
    exact this
  · intro _ s F z7 z8 hs hB hM hP hF hQ
    refine b_90_e hI (hs.L hL) (hs.D hD) (by omega) (by omega) ?_ ⟨s, hs, ?_⟩
    · rw [show g - (g - sn S 8) = sn S 8 by omega, hI.c8, m1_lt (by omega) (by omega)]
      exact Nat.le_refl _
    · rw [firV_no (fun U hU hU2 q hq => okR_f (fun c => ?_))]
      have := hQ h hh0 U (by omega) (c.2.1.go c.2.2 hq c.1)
      omega
