/-! WAYS: what can be reached, in the class (made by wip/whole/gen80.py) -/
/-- one who is at v0 from T0 on can be at v at T -/
def Rch (S : Nat → Int32) (k v0 T0 T v : Nat) : Prop := ∀ Q : Nat → Nat → Prop, Q T0 v0 → (∀ T v, Q T v → Q (T + 1) v) → (∀ T v r, Q T v → bd S k v T = false → r < sn S 3 → otP S r v → Q (T + sn S (177 + 3 * r + 2)) (otN S r v)) → Q T v
theorem Rch.base {S : Nat → Int32} {k v0 T0 : Nat} : Rch S k v0 T0 T0 v0 := fun _ h _ _ => h
theorem Rch.wait {S : Nat → Int32} {k v0 T0 T v : Nat} (h : Rch S k v0 T0 T v) : Rch S k v0 T0 (T + 1) v := fun Q a b c => b _ _ (h Q a b c)
theorem Rch.go {S : Nat → Int32} {k v0 T0 T v r : Nat} (h : Rch S k v0 T0 T v) (hb : bd S k v T = false) (hr : r < sn S 3) (ho : otP S r v) : Rch S k v0 T0 (T + sn S (177 + 3 * r + 2)) (otN S r v) := fun Q a b c => c _ _ _ (h Q a b c) hb hr ho
theorem Rch.waits {S : Nat → Int32} {k v0 T0 T v : Nat} (h : Rch S k v0 T0 T v) : ∀ n, Rch S k v0 T0 (T + n) v
  | 0 => h
  | n + 1 => (h.waits n).wait
theorem Rch.mono {S : Nat → Int32} {k v0 T0 T T' v : Nat} (h : Rch S k v0 T0 T v) (hT : T ≤ T') : Rch S k v0 T0 T' v := by
  have := h.waits (T' - T)
  rw [show T + (T' - T) = T' by omega] at this
  exact this
theorem Rch.ge {S : Nat → Int32} {k v0 T0 T v : Nat} (h : Rch S k v0 T0 T v) : T0 ≤ T := h (fun T _ => T0 ≤ T) (Nat.le_refl _) (fun _ _ h => Nat.le_succ_of_le h) (fun _ _ _ h _ _ _ => Nat.le_trans h (Nat.le_add_right _ _))
theorem Rch.lt {B : Nat} {S : Nat → Int32} (hI : Inv B S) {k v0 T0 T v : Nat} (hv : v0 < sn S 0) (h : Rch S k v0 T0 T v) : v < sn S 0 := h (fun _ v => v < sn S 0) hv (fun _ _ h => h) (fun _ _ _ _ _ hr _ => otN_lt hI hr _)
/-- the soonest times as the class has them -/
def soM (s : Mg) (F : Nat → Nat) : Prop := ∀ u, u < 6 → s 10 u = nI (F u) ∧ F u ≤ 2000000000
theorem soM.up {s : Mg} {F : Nat → Nat} (h : soM s F) {u x : Nat} (hx : x ≤ 2000000000) : soM (mu s 10 u (nI x)) (fun i => if i = u then x else F i) := fun i hi => by
  by_cases e : i = u
  · subst e
    rw [mu_self]
    dsimp only
    rw [if_pos rfl]
    exact ⟨rfl, hx⟩
  · rw [mu_idx e]
    dsimp only
    rw [if_neg e]
    exact h i hi
/-- one leaves v at t -/
def lvF (S : Nat → Int32) (v t l : Nat) (F : Nat → Nat) : Nat → Nat → Nat
  | 0 => F
  | r + 1 => if (sn S (177 + 3 * r) = v ∨ sn S (177 + 3 * r + 1) = v) ∧ t + sn S (177 + 3 * r + 2) ≤ l ∧ t + sn S (177 + 3 * r + 2) < lvF S v t l F r (otN S r v) then (fun i => if i = otN S r v then t + sn S (177 + 3 * r + 2) else lvF S v t l F r i) else lvF S v t l F r
theorem lvF_ok {S : Nat → Int32} {v t l : Nat} {F : Nat → Nat} : ∀ n, (∀ u, lvF S v t l F n u ≤ F u) ∧ (∀ r, r < n → otP S r v → t + sn S (177 + 3 * r + 2) ≤ l → lvF S v t l F n (otN S r v) ≤ t + sn S (177 + 3 * r + 2)) ∧ ∀ u, lvF S v t l F n u = F u ∨ ∃ r, r < n ∧ otP S r v ∧ otN S r v = u ∧ lvF S v t l F n u = t + sn S (177 + 3 * r + 2) ∧ t + sn S (177 + 3 * r + 2) ≤ l
  | 0 => ⟨fun _ => Nat.le_refl _, fun r hr => absurd hr (Nat.not_lt_zero _), fun _ => Or.inl rfl⟩
  | n + 1 => by
    obtain ⟨h1, h2, h3⟩ := lvF_ok (S := S) (v := v) (t := t) (l := l) (F := F) n
    by_cases c : (sn S (177 + 3 * n) = v ∨ sn S (177 + 3 * n + 1) = v) ∧ t + sn S (177 + 3 * n + 2) ≤ l ∧ t + sn S (177 + 3 * n + 2) < lvF S v t l F n (otN S n v)
    · have e : lvF S v t l F (n + 1) = fun i => if i = otN S n v then t + sn S (177 + 3 * n + 2) else lvF S v t l F n i := if_pos c
      rw [e]
      refine ⟨fun u => ?_, fun r hr ho hl => ?_, fun u => ?_⟩
      · dsimp only
        split
        · rename_i e2
          rw [e2]
          have := h1 (otN S n v)
          omega
        · exact h1 u
      · dsimp only
        by_cases er : r = n
        · subst er
          rw [if_pos rfl]
          exact Nat.le_refl _
        · have := h2 r (by omega) ho hl
          split
          · rename_i e2
            rw [e2] at this
            omega
          · exact this
      · dsimp only
        by_cases eu : u = otN S n v
        · rw [if_pos eu]
          exact Or.inr ⟨n, by omega, c.1, eu.symm, rfl, c.2.1⟩
        · rw [if_neg eu]
          rcases h3 u with h | ⟨r, g1, g2⟩
          · exact Or.inl h
          · exact Or.inr ⟨r, by omega, g2⟩
    · have e : lvF S v t l F (n + 1) = lvF S v t l F n := if_neg c
      rw [e]
      refine ⟨h1, fun r hr ho hl => ?_, fun u => ?_⟩
      · by_cases er : r = n
        · subst er
          rcases Nat.lt_or_ge (t + sn S (177 + 3 * r + 2)) (lvF S v t l F r (otN S r v)) with h9 | h9
          · exact absurd ⟨ho, hl, h9⟩ c
          · exact h9
        · exact h2 r (by omega) ho hl
      · rcases h3 u with h | ⟨r, g1, g2⟩
        · exact Or.inl h
        · exact Or.inr ⟨r, by omega, g2⟩

theorem b_89_0 {X : Nat × (Nat → Int32)} {d : Nat} {p : Nat → Nat} {sg : Mg} {Q : am_R → Prop} {B : Nat} {S : Nat → Int32} (hI : Inv B S) (hL : cwL 250 sg S) (hD : cwD 200 sg S) {v : Nat} {t : Nat} {l : Nat} (u_v : v ≤ 5) (u_t : t ≤ 200400) (u_l : l ≤ 200400)
    (o1 : gW X (d + 2) k_89 2 [some (vR 8), some (vI (nI v)), some (vI (nI t)), some (vI (nI l)), some (vI 0), none, none] [] p sg Q) :
    gW X (d + 2) k_89 0 [some (vR 8), some (vI (nI v)), some (vI (nI t)), some (vI (nI l)), none, none, none] [] p sg Q := by
  have b0 := hI.b0; have b1 := hI.b1; have b2 := hI.b2; have b3 := hI.b3; have b4 := hI.b4; have b5 := hI.b5; have b6 := hI.b6; have b7 := hI.b7; have b8 := hI.b8; have b9 := hI.b9; have b14 := hI.b14
  refine g_pure 2 (i' := 2) (lv' := [some (vR 8), some (vI (nI v)), some (vI (nI t)), some (vI (nI l)), some (vI 0), none, none]) (st' := []) rfl ?_
  exact o1

theorem b_89_2 {X : Nat × (Nat → Int32)} {d : Nat} {p : Nat → Nat} {sg : Mg} {Q : am_R → Prop} {B : Nat} {S : Nat → Int32} (hI : Inv B S) (hL : cwL 250 sg S) (hD : cwD 200 sg S) {v : Nat} {t : Nat} {l : Nat} {j : Nat} {z5 : Option AV} {z6 : Option AV} (u_v : v ≤ 5) (u_t : t ≤ 200400) (u_l : l ≤ 200400) (u_j : j ≤ 12)
    (o1 : (sn S 3 ≤ j) → Q (gR0 p sg))
    (o2 : (¬ (sn S 3 ≤ j)) → (otP S j v) → gW X (d + 2) k_89 25 [some (vR 8), some (vI (nI v)), some (vI (nI t)), some (vI (nI l)), some (vI (nI j)), some (vI (nI (otN S j v))), some (vI (nI (t + sn S (177 + 3 * j + 2))))] [] p sg Q)
    (o3 : (¬ (sn S 3 ≤ j)) → (¬ otP S j v) → gW X (d + 2) k_89 25 [some (vR 8), some (vI (nI v)), some (vI (nI t)), some (vI (nI l)), some (vI (nI j)), some (vI (-1)), some (vI (nI (t + sn S (177 + 3 * j + 2))))] [] p sg Q) :
    gW X (d + 2) k_89 2 [some (vR 8), some (vI (nI v)), some (vI (nI t)), some (vI (nI l)), some (vI (nI j)), z5, z6] [] p sg Q := by
  have b0 := hI.b0; have b1 := hI.b1; have b2 := hI.b2; have b3 := hI.b3; have b4 := hI.b4; have b5 := hI.b5; have b6 := hI.b6; have b7 := hI.b7; have b8 := hI.b8; have b9 := hI.b9; have b14 := hI.b14
  refine g_pure 5 (i' := 7) (lv' := [some (vR 8), some (vI (nI v)), some (vI (nI t)), some (vI (nI l)), some (vI (nI j)), z5, z6]) (st' := [vI 3, vR 203, vI (nI j)]) rfl ?_
  refine g_ald rfl (g_A (a := 203) (kd := 1) (n := 6) rfl (by decide)) (by decide) (show 3 = nI 3 from (show (3 : Int32) = nI 3 from rfl)) (by decide) (show _ = S 3 from (hD.cnt (by decide))) ?_
  refine g_if2 (i' := 44) (P := sn S 3 ≤ j) rfl rfl (g_geN (show nI j = nI j from (rfl : nI j = nI j)) (show S 3 = nI (sn S 3) from (hI.c3)) (by omega) (by omega)) (fun h1 => ?_) (fun h1 => ?_)
  · refine g_vret rfl ?_
    exact o1 h1
  · refine g_pure 4 (i' := 13) (lv' := [some (vR 8), some (vI (nI v)), some (vI (nI t)), some (vI (nI l)), some (vI (nI j)), z5, z6]) (st' := [vI (nI v), vI (nI j), vR 202]) rfl ?_
    by_cases h2 : otP S j v
    · refine g_cV1 rfl (args := [vR 202, vI (nI j), vI (nI v)]) (rest := []) rfl rfl rfl (s_39o (d := d) hI hL hD (by omega) (by omega) (by omega) (by assumption)) ?_
      have t3 := otN_lt hI (r := j) (by omega) v
      refine g_pure 6 (i' := 20) (lv' := [some (vR 8), some (vI (nI v)), some (vI (nI t)), some (vI (nI l)), some (vI (nI j)), some (vI (nI (otN S j v))), z6]) (st' := [vI (nI j), vR 205, vI (nI t)]) rfl ?_
      refine g_aald rfl (Or.inl rfl) (g_A (a := 205) (kd := 5) (n := 12) rfl (by decide)) (by decide) (show nI j = nI j from (rfl : nI j = nI j)) (by omega) (gR_205 (by omega)) ?_
      refine g_pure 1 (i' := 22) (lv' := [some (vR 8), some (vI (nI v)), some (vI (nI t)), some (vI (nI l)), some (vI (nI j)), some (vI (nI (otN S j v))), z6]) (st' := [vI 2, vR (222 + j), vI (nI t)]) rfl ?_
      refine g_ald rfl (gA_205 (by omega)) (by decide) (show 2 = nI 2 from (show (2 : Int32) = nI 2 from rfl)) (by decide) (show _ = S (177 + 3 * j + 2) from (hD.roa 2 (by omega) (by decide))) ?_
      have t4 := (hI.roa (k := j) (by omega)).2.2.1
      have t4b := t4.2
      refine g_pure 2 (i' := 25) (lv' := [some (vR 8), some (vI (nI v)), some (vI (nI t)), some (vI (nI l)), some (vI (nI j)), some (vI (nI (otN S j v))), some (vI (nI t + S (177 + 3 * j + 2)))]) (st' := []) rfl ?_
      refine gW_eq (lv' := [some (vR 8), some (vI (nI v)), some (vI (nI t)), some (vI (nI l)), some (vI (nI j)), some (vI (nI (otN S j v))), some (vI (nI (t + sn S (177 + 3 * j + 2))))]) (st' := []) (by rw [(show (nI t + S (177 + 3 * j + 2)) = nI (t + sn S (177 + 3 * j + 2)) from ((g_add (rfl : nI t = nI t) t4.1)).trans (congrArg nI (by omega)))]) rfl rfl ?_
      exact o2 h1 h2
    · refine g_cV1 rfl (args := [vR 202, vI (nI j), vI (nI v)]) (rest := []) rfl rfl rfl (s_39x (d := d) hI hL hD (by omega) (by omega) (by omega) (by assumption)) ?_
      refine g_pure 6 (i' := 20) (lv' := [some (vR 8), some (vI (nI v)), some (vI (nI t)), some (vI (nI l)), some (vI (nI j)), some (vI (-1)), z6]) (st' := [vI (nI j), vR 205, vI (nI t)]) rfl ?_
      refine g_aald rfl (Or.inl rfl) (g_A (a := 205) (kd := 5) (n := 12) rfl (by decide)) (by decide) (show nI j = nI j from (rfl : nI j = nI j)) (by omega) (gR_205 (by omega)) ?_
      refine g_pure 1 (i' := 22) (lv' := [some (vR 8), some (vI (nI v)), some (vI (nI t)), some (vI (nI l)), some (vI (nI j)), some (vI (-1)), z6]) (st' := [vI 2, vR (222 + j), vI (nI t)]) rfl ?_
      refine g_ald rfl (gA_205 (by omega)) (by decide) (show 2 = nI 2 from (show (2 : Int32) = nI 2 from rfl)) (by decide) (show _ = S (177 + 3 * j + 2) from (hD.roa 2 (by omega) (by decide))) ?_
      have t5 := (hI.roa (k := j) (by omega)).2.2.1
      have t5b := t5.2
      refine g_pure 2 (i' := 25) (lv' := [some (vR 8), some (vI (nI v)), some (vI (nI t)), some (vI (nI l)), some (vI (nI j)), some (vI (-1)), some (vI (nI t + S (177 + 3 * j + 2)))]) (st' := []) rfl ?_
      refine gW_eq (lv' := [some (vR 8), some (vI (nI v)), some (vI (nI t)), some (vI (nI l)), some (vI (nI j)), some (vI (-1)), some (vI (nI (t + sn S (177 + 3 * j + 2))))]) (st' := []) (by rw [(show (nI t + S (177 + 3 * j + 2)) = nI (t + sn S (177 + 3 * j + 2)) from ((g_add (rfl : nI t = nI t) t5.1)).trans (congrArg nI (by omega)))]) rfl rfl ?_
      exact o3 h1 h2

theorem b_89_m {X : Nat × (Nat → Int32)} {d : Nat} {p : Nat → Nat} {sg : Mg} {Q : am_R → Prop} {B : Nat} {S : Nat → Int32} (hI : Inv B S) (hL : cwL 250 sg S) (hD : cwD 200 sg S) {v : Nat} {t : Nat} {l : Nat} {j : Nat} {u : Nat} {x : Nat} (u_v : v ≤ 5) (u_t : t ≤ 200400) (u_l : l ≤ 200400) (u_j : j ≤ 12) (u_u : u ≤ 5) (u_x : x ≤ 200405)
    (o1 : (l < x) → gW X (d + 2) k_89 2 [some (vR 8), some (vI (nI v)), some (vI (nI t)), some (vI (nI l)), some (vI (nI (j + 1))), some (vI (nI u)), some (vI (nI x))] [] p sg Q)
    (o2 : (¬ (l < x)) → (sg 10 u ≤ nI x) → gW X (d + 2) k_89 2 [some (vR 8), some (vI (nI v)), some (vI (nI t)), some (vI (nI l)), some (vI (nI (j + 1))), some (vI (nI u)), some (vI (nI x))] [] p sg Q)
    (o3 : (¬ (l < x)) → (¬ (sg 10 u ≤ nI x)) → ∀ s4 : Mg, s4 = mu sg 10 u (nI x) → gW X (d + 2) k_89 2 [some (vR 8), some (vI (nI v)), some (vI (nI t)), some (vI (nI l)), some (vI (nI (j + 1))), some (vI (nI u)), some (vI (nI x))] [] p s4 Q) :
    gW X (d + 2) k_89 25 [some (vR 8), some (vI (nI v)), some (vI (nI t)), some (vI (nI l)), some (vI (nI j)), some (vI (nI u)), some (vI (nI x))] [] p sg Q := by
  have b0 := hI.b0; have b1 := hI.b1; have b2 := hI.b2; have b3 := hI.b3; have b4 := hI.b4; have b5 := hI.b5; have b6 := hI.b6; have b7 := hI.b7; have b8 := hI.b8; have b9 := hI.b9; have b14 := hI.b14
  refine g_pure 2 (i' := 27) (lv' := [some (vR 8), some (vI (nI v)), some (vI (nI t)), some (vI (nI l)), some (vI (nI j)), some (vI (nI u)), some (vI (nI x))]) (st' := [vI (-1), vI (nI u)]) rfl ?_
  refine g_if2 (i' := 42) (P := nI u = (-1)) rfl rfl Iff.rfl (fun h1 => absurd h1 (nI_m1 (by omega))) (fun _ => ?_)
  refine g_pure 2 (i' := 30) (lv' := [some (vR 8), some (vI (nI v)), some (vI (nI t)), some (vI (nI l)), some (vI (nI j)), some (vI (nI u)), some (vI (nI x))]) (st' := [vI (nI l), vI (nI x)]) rfl ?_
  refine g_if2 (i' := 42) (P := l < x) rfl rfl (g_gtN (show nI x = nI x from (rfl : nI x = nI x)) (show nI l = nI l from (rfl : nI l = nI l)) (by omega) (by omega)) (fun h2 => ?_) (fun h2 => ?_)
  · refine g_pure 2 (i' := 2) (lv' := [some (vR 8), some (vI (nI v)), some (vI (nI t)), some (vI (nI l)), some (vI (nI j + 1)), some (vI (nI u)), some (vI (nI x))]) (st' := []) rfl ?_
    refine gW_eq (lv' := [some (vR 8), some (vI (nI v)), some (vI (nI t)), some (vI (nI l)), some (vI (nI (j + 1))), some (vI (nI u)), some (vI (nI x))]) (st' := []) (by rw [(show (nI j + 1) = nI (j + 1) from ((g_add (rfl : nI j = nI j) (show (1 : Int32) = nI 1 from rfl))).trans (congrArg nI (by omega)))]) rfl rfl ?_
    exact o1 h2
  · refine g_pure 4 (i' := 35) (lv' := [some (vR 8), some (vI (nI v)), some (vI (nI t)), some (vI (nI l)), some (vI (nI j)), some (vI (nI u)), some (vI (nI x))]) (st' := [vI (nI u), vR 10, vI (nI x)]) rfl ?_
    refine g_ald rfl (g_A (a := 10) (kd := 1) (n := 6) rfl (by decide)) (by decide) (show nI u = nI u from (rfl : nI u = nI u)) (by omega) (show _ = sg 10 u from rfl) ?_
    refine g_if2 (i' := 42) (P := sg 10 u ≤ nI x) rfl rfl Iff.rfl (fun h3 => ?_) (fun h3 => ?_)
    · refine g_pure 2 (i' := 2) (lv' := [some (vR 8), some (vI (nI v)), some (vI (nI t)), some (vI (nI l)), some (vI (nI j + 1)), some (vI (nI u)), some (vI (nI x))]) (st' := []) rfl ?_
      refine gW_eq (lv' := [some (vR 8), some (vI (nI v)), some (vI (nI t)), some (vI (nI l)), some (vI (nI (j + 1))), some (vI (nI u)), some (vI (nI x))]) (st' := []) (by rw [(show (nI j + 1) = nI (j + 1) from ((g_add (rfl : nI j = nI j) (show (1 : Int32) = nI 1 from rfl))).trans (congrArg nI (by omega)))]) rfl rfl ?_
      exact o2 h2 h3
    · refine g_pure 4 (i' := 41) (lv' := [some (vR 8), some (vI (nI v)), some (vI (nI t)), some (vI (nI l)), some (vI (nI j)), some (vI (nI u)), some (vI (nI x))]) (st' := [vI (nI x), vI (nI u), vR 10]) rfl ?_
      refine g_ast rfl (g_A (a := 10) (kd := 1) (n := 6) rfl (by decide)) (by decide) (show nI u = nI u from (rfl : nI u = nI u)) (by omega) ?_
      refine g_setv (fun s4 es4 => ?_)
      have hLs4 : cwL 250 s4 S := by rw [es4]; exact hL.out (by decide)
      have hDs4 : cwD 200 s4 S := by rw [es4]; exact hD.out (by decide)
      refine g_pure 2 (i' := 2) (lv' := [some (vR 8), some (vI (nI v)), some (vI (nI t)), some (vI (nI l)), some (vI (nI j + 1)), some (vI (nI u)), some (vI (nI x))]) (st' := []) rfl ?_
      refine gW_eq (lv' := [some (vR 8), some (vI (nI v)), some (vI (nI t)), some (vI (nI l)), some (vI (nI (j + 1))), some (vI (nI u)), some (vI (nI x))]) (st' := []) (by rw [(show (nI j + 1) = nI (j + 1) from ((g_add (rfl : nI j = nI j) (show (1 : Int32) = nI 1 from rfl))).trans (congrArg nI (by omega)))]) rfl rfl ?_
      exact o3 h2 h3 s4 es4

theorem b_89_x {X : Nat × (Nat → Int32)} {d : Nat} {p : Nat → Nat} {sg : Mg} {Q : am_R → Prop} {B : Nat} {S : Nat → Int32} (hI : Inv B S) (hL : cwL 250 sg S) (hD : cwD 200 sg S) {v : Nat} {t : Nat} {l : Nat} {j : Nat} {x : Nat} (u_v : v ≤ 5) (u_t : t ≤ 200400) (u_l : l ≤ 200400) (u_j : j ≤ 12) (u_x : x ≤ 200405)
    (o1 : gW X (d + 2) k_89 2 [some (vR 8), some (vI (nI v)), some (vI (nI t)), some (vI (nI l)), some (vI (nI (j + 1))), some (vI (-1)), some (vI (nI x))] [] p sg Q) :
    gW X (d + 2) k_89 25 [some (vR 8), some (vI (nI v)), some (vI (nI t)), some (vI (nI l)), some (vI (nI j)), some (vI (-1)), some (vI (nI x))] [] p sg Q := by
  have b0 := hI.b0; have b1 := hI.b1; have b2 := hI.b2; have b3 := hI.b3; have b4 := hI.b4; have b5 := hI.b5; have b6 := hI.b6; have b7 := hI.b7; have b8 := hI.b8; have b9 := hI.b9; have b14 := hI.b14
  refine g_pure 2 (i' := 27) (lv' := [some (vR 8), some (vI (nI v)), some (vI (nI t)), some (vI (nI l)), some (vI (nI j)), some (vI (-1)), some (vI (nI x))]) (st' := [vI (-1), vI (-1)]) rfl ?_
  refine g_if2 (i' := 42) (P := ((-1) : Int32) = (-1)) rfl rfl Iff.rfl (fun _ => ?_) (fun h1 => absurd (by decide) h1)
  refine g_pure 2 (i' := 2) (lv' := [some (vR 8), some (vI (nI v)), some (vI (nI t)), some (vI (nI l)), some (vI (nI j + 1)), some (vI (-1)), some (vI (nI x))]) (st' := []) rfl ?_
  refine gW_eq (lv' := [some (vR 8), some (vI (nI v)), some (vI (nI t)), some (vI (nI l)), some (vI (nI (j + 1))), some (vI (-1)), some (vI (nI x))]) (st' := []) (by rw [(show (nI j + 1) = nI (j + 1) from ((g_add (rfl : nI j = nI j) (show (1 : Int32) = nI 1 from rfl))).trans (congrArg nI (by omega)))]) rfl rfl ?_
  exact o1

theorem s_89 {X : Nat × (Nat → Int32)} {d : Nat} {p : Nat → Nat} {sg : Mg} {B : Nat} {S : Nat → Int32} (hI : Inv B S) (hL : cwL 250 sg S) (hD : cwD 200 sg S) {v t l : Nat} {F : Nat → Nat} (hv : v < sn S 0) (ht : t ≤ 200400) (hl : l ≤ 200400) (hM : soM sg F) : gF X (d + 3) 89 [vR 8, vI (nI v), vI (nI t), vI (nI l)] p sg (fun r => ∃ s, ((∀ c, c ≠ 10 → s c = sg c) ∧ soM s (lvF S v t l F (sn S 3))) ∧ r = gR0 p s) := by
  have b0 := hI.b0; have b3 := hI.b3
  refine g_in (cd := k_89) (nL := 7) (rc := 10) rfl (g_A (a := 8) (kd := 0) (n := 9) rfl (by decide)) (g_c1 rfl) (b_89_0 hI hL hD (by omega) ht hl ?_)
  have key := g_upI (P := fun j => ∀ s z5 z6, (∀ c, c ≠ 10 → s c = sg c) → soM s (lvF S v t l F j) → gW X (d + 2) k_89 2 [some (vR 8), some (vI (nI v)), some (vI (nI t)), some (vI (nI l)), some (vI (nI j)), z5, z6] [] p s (fun r => ∃ s, ((∀ c, c ≠ 10 → s c = sg c) ∧ soM s (lvF S v t l F (sn S 3))) ∧ r = gR0 p s)) (I := fun _ => True) (n := sn S 3) (a := 0) (by omega) trivial ?_ ?_
  · exact key sg none none (fun _ _ => rfl) hM
  · intro j _ hj _ ih s z5 z6 hs hM
    have ih := ih trivial
    have hL2 : cwL 250 s S := hL.eqc (fun c c1 c2 => hs c (by omega))
    have hD2 : cwD 200 s S := hD.eqc (fun c c1 => hs c (by omega))
    have hr := (hI.roa hj).2.2.1.2
    refine b_89_2 hI hL2 hD2 (by omega) ht hl (by omega) (fun h => by omega) (fun _ ho => ?_) (fun _ ho => ?_)
    · have hu := otN_lt hI hj v
      have m := hM (otN S j v) (by omega)
      refine b_89_m hI hL2 hD2 (by omega) ht hl (by omega) (by omega) (by omega) (fun h => ?_) (fun h h2 => ?_) (fun h h2 s4 e4 => ?_)
      · have e : lvF S v t l F (j + 1) = lvF S v t l F j := if_neg (fun c => by omega)
        rw [e] at ih
        exact ih _ _ _ hs hM
      · rw [m.1, nI_leI (by omega) (by omega)] at h2
        have e : lvF S v t l F (j + 1) = lvF S v t l F j := if_neg (fun c => by omega)
        rw [e] at ih
        exact ih _ _ _ hs hM
      · rw [m.1, nI_leI (by omega) (by omega)] at h2
        have e : lvF S v t l F (j + 1) = fun i => if i = otN S j v then t + sn S (177 + 3 * j + 2) else lvF S v t l F j i := if_pos ⟨ho, by omega, by omega⟩
        rw [e] at ih
        refine ih _ _ _ (fun c hc => by rw [e4, mu_ne hc]; exact hs c hc) ?_
        rw [e4]
        exact hM.up (by omega)
    · have e : lvF S v t l F (j + 1) = lvF S v t l F j := if_neg (fun c => ho c.1)
      rw [e] at ih
      exact b_89_x hI hL2 hD2 (by omega) ht hl (by omega) (by omega) (ih _ _ _ hs hM)
  · intro _ s z5 z6 hs hM
    have hL2 : cwL 250 s S := hL.eqc (fun c c1 c2 => hs c (by omega))
    have hD2 : cwD 200 s S := hD.eqc (fun c c1 => hs c (by omega))
    exact b_89_2 hI hL2 hD2 (by omega) ht hl (by omega) (fun _ => ⟨s, ⟨hs, hM⟩, rfl⟩) (fun h => by omega) (fun h => by omega)

theorem b_87_8 {X : Nat × (Nat → Int32)} {d : Nat} {p : Nat → Nat} {sg : Mg} {Q : am_R → Prop} {B : Nat} {S : Nat → Int32} (hI : Inv B S) (hL : cwL 250 sg S) (hD : cwD 200 sg S) (hW : LW S sg) (hB : bOK S sg) {k : Nat} {v : Nat} {f : Nat} {l : Nat} (u_k : k ≤ 7) (u_v : v ≤ 5) (u_f : f ≤ 200405) (u_l : l ≤ 200400)
    (o1 : ∀ s1 : Mg, s1 = mu sg 10 v (nI f) → gW X (d + 5) k_87 21 [some (vR 8), some (vI (nI k)), some (vI (nI v)), some (vI (nI f)), some (vI (nI l)), some (vI (1 <<< (nI v &&& 31))), some (vI 0), some (vI (nI f)), none, none] [] p s1 Q) :
    gW X (d + 5) k_87 8 [some (vR 8), some (vI (nI k)), some (vI (nI v)), some (vI (nI f)), some (vI (nI l)), none, none, none, none, none] [] p sg Q := by
  have b0 := hI.b0; have b1 := hI.b1; have b2 := hI.b2; have b3 := hI.b3; have b4 := hI.b4; have b5 := hI.b5; have b6 := hI.b6; have b7 := hI.b7; have b8 := hI.b8; have b9 := hI.b9; have b14 := hI.b14
  refine g_pure 4 (i' := 12) (lv' := [some (vR 8), some (vI (nI k)), some (vI (nI v)), some (vI (nI f)), some (vI (nI l)), none, none, none, none, none]) (st' := [vI (nI f), vI (nI v), vR 10]) rfl ?_
  refine g_ast rfl (g_A (a := 10) (kd := 1) (n := 6) rfl (by decide)) (by decide) (show nI v = nI v from (rfl : nI v = nI v)) (by omega) ?_
  refine g_setv (fun s1 es1 => ?_)
  have hWs1 : LW S s1 := (hW).eqc (fun c c1 c2 => by rw [es1, mu_ne (by omega)])
  have hBs1 : bOK S s1 := by rw [es1]; exact hB.out (by decide)
  have hLs1 : cwL 250 s1 S := by rw [es1]; exact hL.out (by decide)
  have hDs1 : cwD 200 s1 S := by rw [es1]; exact hD.out (by decide)
  refine g_pure 8 (i' := 21) (lv' := [some (vR 8), some (vI (nI k)), some (vI (nI v)), some (vI (nI f)), some (vI (nI l)), some (vI (1 <<< (nI v &&& 31))), some (vI 0), some (vI (nI f)), none, none]) (st' := []) rfl ?_
  exact o1 s1 es1

theorem b_87_21 {X : Nat × (Nat → Int32)} {d : Nat} {p : Nat → Nat} {sg : Mg} {Q : am_R → Prop} {B : Nat} {S : Nat → Int32} (hI : Inv B S) (hL : cwL 250 sg S) (hD : cwD 200 sg S) (hW : LW S sg) (hB : bOK S sg) {k : Nat} {z2 : Option AV} {z3 : Option AV} {l : Nat} {w : Nat} {q : Nat} {t : Nat} {z8 : Option AV} {z9 : Option AV} (u_k : k ≤ 7) (u_l : l ≤ 200400) (u_w : w ≤ 63) (u_q : q ≤ 63) (u_t : t ≤ 200405)
    (o1 : (l ≤ t) → Q (gR0 p sg))
    (o2 : (¬ (l ≤ t)) → (w = 0) → Q (gR0 p sg))
    (o3 : (¬ (l ≤ t)) → (¬ (w = 0)) → gW X (d + 5) k_87 30 [some (vR 8), some (vI (nI k)), z2, z3, some (vI (nI l)), some (vI 0), some (vI (nI q)), some (vI (nI t)), some (vI 0), z9] [] p sg Q) :
    gW X (d + 5) k_87 21 [some (vR 8), some (vI (nI k)), z2, z3, some (vI (nI l)), some (vI (nI w)), some (vI (nI q)), some (vI (nI t)), z8, z9] [] p sg Q := by
  have b0 := hI.b0; have b1 := hI.b1; have b2 := hI.b2; have b3 := hI.b3; have b4 := hI.b4; have b5 := hI.b5; have b6 := hI.b6; have b7 := hI.b7; have b8 := hI.b8; have b9 := hI.b9; have b14 := hI.b14
  refine g_pure 2 (i' := 23) (lv' := [some (vR 8), some (vI (nI k)), z2, z3, some (vI (nI l)), some (vI (nI w)), some (vI (nI q)), some (vI (nI t)), z8, z9]) (st' := [vI (nI l), vI (nI t)]) rfl ?_
  refine g_if2 (i' := 105) (P := l ≤ t) rfl rfl (g_geN (show nI t = nI t from (rfl : nI t = nI t)) (show nI l = nI l from (rfl : nI l = nI l)) (by omega) (by omega)) (fun h1 => ?_) (fun h1 => ?_)
  · refine g_vret rfl ?_
    exact o1 h1
  · refine g_pure 1 (i' := 25) (lv' := [some (vR 8), some (vI (nI k)), z2, z3, some (vI (nI l)), some (vI (nI w)), some (vI (nI q)), some (vI (nI t)), z8, z9]) (st' := [vI (nI w)]) rfl ?_
    refine g_if1 (i' := 105) (P := w = 0) rfl rfl (g_eqN (show nI w = nI w from (rfl : nI w = nI w)) (show 0 = nI 0 from (show (0 : Int32) = nI 0 from rfl)) (by omega) (by omega)) (fun h2 => ?_) (fun h2 => ?_)
    · refine g_vret rfl ?_
      exact o2 h1 h2
    · refine g_pure 4 (i' := 30) (lv' := [some (vR 8), some (vI (nI k)), z2, z3, some (vI (nI l)), some (vI 0), some (vI (nI q)), some (vI (nI t)), some (vI 0), z9]) (st' := []) rfl ?_
      exact o3 h1 h2

theorem b_87_30 {X : Nat × (Nat → Int32)} {d : Nat} {p : Nat → Nat} {sg : Mg} {Q : am_R → Prop} {B : Nat} {S : Nat → Int32} (hI : Inv B S) (hL : cwL 250 sg S) (hD : cwD 200 sg S) (hW : LW S sg) (hB : bOK S sg) {k : Nat} {z2 : Option AV} {z3 : Option AV} {l : Nat} {w : Nat} {q : Nat} {t : Nat} {j : Nat} {z9 : Option AV} (u_k : k ≤ 7) (u_l : l ≤ 200400) (u_w : w ≤ 63) (u_q : q ≤ 63) (u_t : t ≤ 200405) (u_j : j ≤ 6) (q1 : k < sn S 1) (q2 : sn S 8 ≤ t) (q3 : t ≤ sn S 8 + 400)
    (o1 : (sn S 0 ≤ j) → gW X (d + 5) k_87 76 [some (vR 8), some (vI (nI k)), z2, z3, some (vI (nI l)), some (vI (nI w)), some (vI (nI q)), some (vI (nI t)), some (vI 0), z9] [] p sg Q)
    (o2 : (¬ (sn S 0 ≤ j)) → (nI t < sg 10 j) → gW X (d + 5) k_87 30 [some (vR 8), some (vI (nI k)), z2, z3, some (vI (nI l)), some (vI (nI w)), some (vI (nI q)), some (vI (nI t)), some (vI (nI (j + 1))), some (vI 0)] [] p sg Q)
    (o3 : (¬ (sn S 0 ≤ j)) → (¬ (nI t < sg 10 j)) → (¬ ((nI q >>> (nI j &&& 31)) &&& 1) = 0) → gW X (d + 5) k_87 30 [some (vR 8), some (vI (nI k)), z2, z3, some (vI (nI l)), some (vI (nI w)), some (vI (nI q)), some (vI (nI t)), some (vI (nI (j + 1))), some (vI 0)] [] p sg Q)
    (o4 : (¬ (sn S 0 ≤ j)) → (¬ (nI t < sg 10 j)) → (((nI q >>> (nI j &&& 31)) &&& 1) = 0) → ∀ s7 : Mg, (WF sg s7 ∧ bOK S s7) → (bd S k j t = true) → gW X (d + 5) k_87 30 [some (vR 8), some (vI (nI k)), z2, z3, some (vI (nI l)), some (vI (nI w)), some (vI (nI q)), some (vI (nI t)), some (vI (nI (j + 1))), some (vI 1)] [] p s7 Q)
    (o5 : (¬ (sn S 0 ≤ j)) → (¬ (nI t < sg 10 j)) → (((nI q >>> (nI j &&& 31)) &&& 1) = 0) → ∀ s7 : Mg, (WF sg s7 ∧ bOK S s7) → (¬ (bd S k j t = true)) → gW X (d + 5) k_87 67 [some (vR 8), some (vI (nI k)), z2, z3, some (vI (nI l)), some (vI (nI w)), some (vI (nI q ||| (1 <<< (nI j &&& 31)))), some (vI (nI t)), some (vI (nI j)), some (vI 1)] [] p s7 Q) :
    gW X (d + 5) k_87 30 [some (vR 8), some (vI (nI k)), z2, z3, some (vI (nI l)), some (vI (nI w)), some (vI (nI q)), some (vI (nI t)), some (vI (nI j)), z9] [] p sg Q := by
  have b0 := hI.b0; have b1 := hI.b1; have b2 := hI.b2; have b3 := hI.b3; have b4 := hI.b4; have b5 := hI.b5; have b6 := hI.b6; have b7 := hI.b7; have b8 := hI.b8; have b9 := hI.b9; have b14 := hI.b14
  refine g_pure 5 (i' := 35) (lv' := [some (vR 8), some (vI (nI k)), z2, z3, some (vI (nI l)), some (vI (nI w)), some (vI (nI q)), some (vI (nI t)), some (vI (nI j)), z9]) (st' := [vI 0, vR 203, vI (nI j)]) rfl ?_
  refine g_ald rfl (g_A (a := 203) (kd := 1) (n := 6) rfl (by decide)) (by decide) (show 0 = nI 0 from (show (0 : Int32) = nI 0 from rfl)) (by decide) (show _ = S 0 from (hD.cnt (by decide))) ?_
  refine g_if2 (i' := 74) (P := sn S 0 ≤ j) rfl rfl (g_geN (show nI j = nI j from (rfl : nI j = nI j)) (show S 0 = nI (sn S 0) from (hI.c0)) (by omega) (by omega)) (fun h1 => ?_) (fun h1 => ?_)
  · refine g_pure 2 (i' := 76) (lv' := [some (vR 8), some (vI (nI k)), z2, z3, some (vI (nI l)), some (vI (nI w)), some (vI (nI q)), some (vI (nI t)), some (vI 0), z9]) (st' := []) rfl ?_
    exact o1 h1
  · refine g_pure 3 (i' := 40) (lv' := [some (vR 8), some (vI (nI k)), z2, z3, some (vI (nI l)), some (vI (nI w)), some (vI (nI q)), some (vI (nI t)), some (vI (nI j)), z9]) (st' := [vI (nI j), vR 10]) rfl ?_
    refine g_ald rfl (g_A (a := 10) (kd := 1) (n := 6) rfl (by decide)) (by decide) (show nI j = nI j from (rfl : nI j = nI j)) (by omega) (show _ = sg 10 j from rfl) ?_
    refine g_pure 1 (i' := 42) (lv' := [some (vR 8), some (vI (nI k)), z2, z3, some (vI (nI l)), some (vI (nI w)), some (vI (nI q)), some (vI (nI t)), some (vI (nI j)), z9]) (st' := [vI (nI t), vI (sg 10 j)]) rfl ?_
    refine g_if2 (i' := 51) (P := nI t < sg 10 j) rfl rfl Iff.rfl (fun h2 => ?_) (fun h2 => ?_)
    · refine g_pure 3 (i' := 54) (lv' := [some (vR 8), some (vI (nI k)), z2, z3, some (vI (nI l)), some (vI (nI w)), some (vI (nI q)), some (vI (nI t)), some (vI (nI j)), some (vI 0)]) (st' := [vI 0]) rfl ?_
      refine g_if1 (i' := 72) (P := 0 = 0) rfl rfl (g_eqN (show 0 = nI 0 from (show (0 : Int32) = nI 0 from rfl)) (show 0 = nI 0 from (show (0 : Int32) = nI 0 from rfl)) (by omega) (by omega)) (fun _ => ?_) (fun h3 => absurd (by omega) h3)
      refine g_pure 2 (i' := 30) (lv' := [some (vR 8), some (vI (nI k)), z2, z3, some (vI (nI l)), some (vI (nI w)), some (vI (nI q)), some (vI (nI t)), some (vI (nI j + 1)), some (vI 0)]) (st' := []) rfl ?_
      refine gW_eq (lv' := [some (vR 8), some (vI (nI k)), z2, z3, some (vI (nI l)), some (vI (nI w)), some (vI (nI q)), some (vI (nI t)), some (vI (nI (j + 1))), some (vI 0)]) (st' := []) (by rw [(show (nI j + 1) = nI (j + 1) from ((g_add (rfl : nI j = nI j) (show (1 : Int32) = nI 1 from rfl))).trans (congrArg nI (by omega)))]) rfl rfl ?_
      exact o2 h1 h2
    · refine g_pure 5 (i' := 48) (lv' := [some (vR 8), some (vI (nI k)), z2, z3, some (vI (nI l)), some (vI (nI w)), some (vI (nI q)), some (vI (nI t)), some (vI (nI j)), z9]) (st' := [vI ((nI q >>> (nI j &&& 31)) &&& 1)]) rfl ?_
      refine g_if1 (i' := 51) (P := ¬ ((nI q >>> (nI j &&& 31)) &&& 1) = 0) rfl rfl Iff.rfl (fun h4 => ?_) (fun h4 => ?_)
      · refine g_pure 3 (i' := 54) (lv' := [some (vR 8), some (vI (nI k)), z2, z3, some (vI (nI l)), some (vI (nI w)), some (vI (nI q)), some (vI (nI t)), some (vI (nI j)), some (vI 0)]) (st' := [vI 0]) rfl ?_
        refine g_if1 (i' := 72) (P := 0 = 0) rfl rfl (g_eqN (show 0 = nI 0 from (show (0 : Int32) = nI 0 from rfl)) (show 0 = nI 0 from (show (0 : Int32) = nI 0 from rfl)) (by omega) (by omega)) (fun _ => ?_) (fun h5 => absurd (by omega) h5)
        refine g_pure 2 (i' := 30) (lv' := [some (vR 8), some (vI (nI k)), z2, z3, some (vI (nI l)), some (vI (nI w)), some (vI (nI q)), some (vI (nI t)), some (vI (nI j + 1)), some (vI 0)]) (st' := []) rfl ?_
        refine gW_eq (lv' := [some (vR 8), some (vI (nI k)), z2, z3, some (vI (nI l)), some (vI (nI w)), some (vI (nI q)), some (vI (nI t)), some (vI (nI (j + 1))), some (vI 0)]) (st' := []) (by rw [(show (nI j + 1) = nI (j + 1) from ((g_add (rfl : nI j = nI j) (show (1 : Int32) = nI 1 from rfl))).trans (congrArg nI (by omega)))]) rfl rfl ?_
        exact o3 h1 h2 h4
      · have h4 := Classical.not_not.mp h4
        refine g_pure 4 (i' := 54) (lv' := [some (vR 8), some (vI (nI k)), z2, z3, some (vI (nI l)), some (vI (nI w)), some (vI (nI q)), some (vI (nI t)), some (vI (nI j)), some (vI 1)]) (st' := [vI 1]) rfl ?_
        refine g_if1 (i' := 72) (P := 1 = 0) rfl rfl (g_eqN (show 1 = nI 1 from (show (1 : Int32) = nI 1 from rfl)) (show 0 = nI 0 from (show (0 : Int32) = nI 0 from rfl)) (by omega) (by omega)) (fun h6 => absurd h6 (by omega)) (fun _ => ?_)
        refine g_pure 4 (i' := 59) (lv' := [some (vR 8), some (vI (nI k)), z2, z3, some (vI (nI l)), some (vI (nI w)), some (vI (nI q)), some (vI (nI t)), some (vI (nI j)), some (vI 1)]) (st' := [vI (nI t), vI (nI j), vI (nI k), vR 8]) rfl ?_
        refine g_cV1E rfl (args := [vR 8, vI (nI k), vI (nI j), vI (nI t)]) (rest := []) rfl rfl rfl (s_88 (d := d) hI hL hD hW hB (by omega) (by omega) (by omega) (by omega)) (fun s7 es7 => ?_)
        have hLs7 : cwL 250 s7 S := (hL).eqc (fun c h1 h2 => es7.1 c (by omega) (by omega) (by omega))
        have hDs7 : cwD 200 s7 S := (hD).eqc (fun c h1 => es7.1 c (by omega) (by omega) (by omega))
        have hWs7 : LW S s7 := (hW).eqc (fun c h1 h2 => es7.1 c (by omega) (by omega) (by omega))
        refine g_if1 (i' := 72) (P := bd S k j t = true) rfl rfl g_neB (fun h8 => ?_) (fun h8 => ?_)
        · refine g_pure 2 (i' := 30) (lv' := [some (vR 8), some (vI (nI k)), z2, z3, some (vI (nI l)), some (vI (nI w)), some (vI (nI q)), some (vI (nI t)), some (vI (nI j + 1)), some (vI 1)]) (st' := []) rfl ?_
          refine gW_eq (lv' := [some (vR 8), some (vI (nI k)), z2, z3, some (vI (nI l)), some (vI (nI w)), some (vI (nI q)), some (vI (nI t)), some (vI (nI (j + 1))), some (vI 1)]) (st' := []) (by rw [(show (nI j + 1) = nI (j + 1) from ((g_add (rfl : nI j = nI j) (show (1 : Int32) = nI 1 from rfl))).trans (congrArg nI (by omega)))]) rfl rfl ?_
          exact o4 h1 h2 h4 s7 es7 h8
        · refine g_pure 6 (i' := 67) (lv' := [some (vR 8), some (vI (nI k)), z2, z3, some (vI (nI l)), some (vI (nI w)), some (vI (nI q ||| (1 <<< (nI j &&& 31)))), some (vI (nI t)), some (vI (nI j)), some (vI 1)]) (st' := []) rfl ?_
          exact o5 h1 h2 h4 s7 es7 h8

theorem b_87_76 {X : Nat × (Nat → Int32)} {d : Nat} {p : Nat → Nat} {sg : Mg} {Q : am_R → Prop} {B : Nat} {S : Nat → Int32} (hI : Inv B S) (hL : cwL 250 sg S) (hD : cwD 200 sg S) (hW : LW S sg) (hB : bOK S sg) {k : Nat} {z2 : Option AV} {z3 : Option AV} {l : Nat} {w : Nat} {q : Nat} {t : Nat} {j : Nat} {z9 : Option AV} (u_k : k ≤ 7) (u_l : l ≤ 200400) (u_w : w ≤ 63) (u_q : q ≤ 63) (u_t : t ≤ 200405) (u_j : j ≤ 6)
    (o1 : (sn S 0 ≤ j) → gW X (d + 5) k_87 21 [some (vR 8), some (vI (nI k)), z2, z3, some (vI (nI l)), some (vI (nI w)), some (vI (nI q)), some (vI (nI (t + 1))), some (vI (nI j)), z9] [] p sg Q)
    (o2 : (¬ (sn S 0 ≤ j)) → (sg 10 j = 2000000000) → gW X (d + 5) k_87 76 [some (vR 8), some (vI (nI k)), z2, z3, some (vI (nI l)), some (vI (nI w)), some (vI (nI q)), some (vI (nI t)), some (vI (nI (j + 1))), z9] [] p sg Q)
    (o3 : (¬ (sn S 0 ≤ j)) → (¬ (sg 10 j = 2000000000)) → (¬ ((nI q >>> (nI j &&& 31)) &&& 1) = 0) → gW X (d + 5) k_87 76 [some (vR 8), some (vI (nI k)), z2, z3, some (vI (nI l)), some (vI (nI w)), some (vI (nI q)), some (vI (nI t)), some (vI (nI (j + 1))), z9] [] p sg Q)
    (o4 : (¬ (sn S 0 ≤ j)) → (¬ (sg 10 j = 2000000000)) → (((nI q >>> (nI j &&& 31)) &&& 1) = 0) → gW X (d + 5) k_87 76 [some (vR 8), some (vI (nI k)), z2, z3, some (vI (nI l)), some (vI (nI w ||| (1 <<< (nI j &&& 31)))), some (vI (nI q)), some (vI (nI t)), some (vI (nI (j + 1))), z9] [] p sg Q) :
    gW X (d + 5) k_87 76 [some (vR 8), some (vI (nI k)), z2, z3, some (vI (nI l)), some (vI (nI w)), some (vI (nI q)), some (vI (nI t)), some (vI (nI j)), z9] [] p sg Q := by
  have b0 := hI.b0; have b1 := hI.b1; have b2 := hI.b2; have b3 := hI.b3; have b4 := hI.b4; have b5 := hI.b5; have b6 := hI.b6; have b7 := hI.b7; have b8 := hI.b8; have b9 := hI.b9; have b14 := hI.b14
  refine g_pure 5 (i' := 81) (lv' := [some (vR 8), some (vI (nI k)), z2, z3, some (vI (nI l)), some (vI (nI w)), some (vI (nI q)), some (vI (nI t)), some (vI (nI j)), z9]) (st' := [vI 0, vR 203, vI (nI j)]) rfl ?_
  refine g_ald rfl (g_A (a := 203) (kd := 1) (n := 6) rfl (by decide)) (by decide) (show 0 = nI 0 from (show (0 : Int32) = nI 0 from rfl)) (by decide) (show _ = S 0 from (hD.cnt (by decide))) ?_
  refine g_if2 (i' := 103) (P := sn S 0 ≤ j) rfl rfl (g_geN (show nI j = nI j from (rfl : nI j = nI j)) (show S 0 = nI (sn S 0) from (hI.c0)) (by omega) (by omega)) (fun h1 => ?_) (fun h1 => ?_)
  · refine g_pure 2 (i' := 21) (lv' := [some (vR 8), some (vI (nI k)), z2, z3, some (vI (nI l)), some (vI (nI w)), some (vI (nI q)), some (vI (nI t + 1)), some (vI (nI j)), z9]) (st' := []) rfl ?_
    refine gW_eq (lv' := [some (vR 8), some (vI (nI k)), z2, z3, some (vI (nI l)), some (vI (nI w)), some (vI (nI q)), some (vI (nI (t + 1))), some (vI (nI j)), z9]) (st' := []) (by rw [(show (nI t + 1) = nI (t + 1) from ((g_add (rfl : nI t = nI t) (show (1 : Int32) = nI 1 from rfl))).trans (congrArg nI (by omega)))]) rfl rfl ?_
    exact o1 h1
  · refine g_pure 3 (i' := 86) (lv' := [some (vR 8), some (vI (nI k)), z2, z3, some (vI (nI l)), some (vI (nI w)), some (vI (nI q)), some (vI (nI t)), some (vI (nI j)), z9]) (st' := [vI (nI j), vR 10]) rfl ?_
    refine g_ald rfl (g_A (a := 10) (kd := 1) (n := 6) rfl (by decide)) (by decide) (show nI j = nI j from (rfl : nI j = nI j)) (by omega) (show _ = sg 10 j from rfl) ?_
    refine g_pure 1 (i' := 88) (lv' := [some (vR 8), some (vI (nI k)), z2, z3, some (vI (nI l)), some (vI (nI w)), some (vI (nI q)), some (vI (nI t)), some (vI (nI j)), z9]) (st' := [vI 2000000000, vI (sg 10 j)]) rfl ?_
    refine g_if2 (i' := 101) (P := sg 10 j = 2000000000) rfl rfl Iff.rfl (fun h2 => ?_) (fun h2 => ?_)
    · refine g_pure 2 (i' := 76) (lv' := [some (vR 8), some (vI (nI k)), z2, z3, some (vI (nI l)), some (vI (nI w)), some (vI (nI q)), some (vI (nI t)), some (vI (nI j + 1)), z9]) (st' := []) rfl ?_
      refine gW_eq (lv' := [some (vR 8), some (vI (nI k)), z2, z3, some (vI (nI l)), some (vI (nI w)), some (vI (nI q)), some (vI (nI t)), some (vI (nI (j + 1))), z9]) (st' := []) (by rw [(show (nI j + 1) = nI (j + 1) from ((g_add (rfl : nI j = nI j) (show (1 : Int32) = nI 1 from rfl))).trans (congrArg nI (by omega)))]) rfl rfl ?_
      exact o2 h1 h2
    · refine g_pure 5 (i' := 94) (lv' := [some (vR 8), some (vI (nI k)), z2, z3, some (vI (nI l)), some (vI (nI w)), some (vI (nI q)), some (vI (nI t)), some (vI (nI j)), z9]) (st' := [vI ((nI q >>> (nI j &&& 31)) &&& 1)]) rfl ?_
      refine g_if1 (i' := 101) (P := ¬ ((nI q >>> (nI j &&& 31)) &&& 1) = 0) rfl rfl Iff.rfl (fun h3 => ?_) (fun h3 => ?_)
      · refine g_pure 2 (i' := 76) (lv' := [some (vR 8), some (vI (nI k)), z2, z3, some (vI (nI l)), some (vI (nI w)), some (vI (nI q)), some (vI (nI t)), some (vI (nI j + 1)), z9]) (st' := []) rfl ?_
        refine gW_eq (lv' := [some (vR 8), some (vI (nI k)), z2, z3, some (vI (nI l)), some (vI (nI w)), some (vI (nI q)), some (vI (nI t)), some (vI (nI (j + 1))), z9]) (st' := []) (by rw [(show (nI j + 1) = nI (j + 1) from ((g_add (rfl : nI j = nI j) (show (1 : Int32) = nI 1 from rfl))).trans (congrArg nI (by omega)))]) rfl rfl ?_
        exact o3 h1 h2 h3
      · have h3 := Classical.not_not.mp h3
        refine g_pure 8 (i' := 76) (lv' := [some (vR 8), some (vI (nI k)), z2, z3, some (vI (nI l)), some (vI (nI w ||| (1 <<< (nI j &&& 31)))), some (vI (nI q)), some (vI (nI t)), some (vI (nI j + 1)), z9]) (st' := []) rfl ?_
        refine gW_eq (lv' := [some (vR 8), some (vI (nI k)), z2, z3, some (vI (nI l)), some (vI (nI w ||| (1 <<< (nI j &&& 31)))), some (vI (nI q)), some (vI (nI t)), some (vI (nI (j + 1))), z9]) (st' := []) (by rw [(show (nI j + 1) = nI (j + 1) from ((g_add (rfl : nI j = nI j) (show (1 : Int32) = nI 1 from rfl))).trans (congrArg nI (by omega)))]) rfl rfl ?_
        exact o4 h1 h2 h3

/-- the soonest times are what they should be, up to a limit -/
def spP (S : Nat → Int32) (k v0 T0 l : Nat) (F : Nat → Nat) : Prop := (∀ u, u < sn S 0 → F u = 2000000000 ∨ (F u ≤ l ∧ Rch S k v0 T0 (F u) u)) ∧ ∀ T u, u < sn S 0 → T ≤ l → Rch S k v0 T0 T u → F u ≤ T
/-- what holds as the times go on: all before t are done, and at t those villages below j -/
def spI (S : Nat → Int32) (k v0 T0 l : Nat) (F : Nat → Nat) (q t j : Nat) : Prop :=
  (∀ u, u < sn S 0 → F u = 2000000000 ∨ (F u ≤ l ∧ Rch S k v0 T0 (F u) u)) ∧ F v0 ≤ T0 ∧ q < 64 ∧
  (∀ u, u < sn S 0 → q.testBit u = true → ∃ x, F u ≤ x ∧ x ≤ t ∧ (x < t ∨ u < j) ∧ (∀ y, F u ≤ y → y < x → bd S k u y = true) ∧ ∀ r, r < sn S 3 → otP S r u → x + sn S (177 + 3 * r + 2) ≤ l → F (otN S r u) ≤ x + sn S (177 + 3 * r + 2)) ∧
  ∀ u, u < sn S 0 → q.testBit u = false → ∀ y, F u ≤ y → (y < t ∨ (y = t ∧ u < j)) → bd S k u y = true
theorem spI.next {S : Nat → Int32} {k v0 T0 l : Nat} {F : Nat → Nat} {q t : Nat} (h : spI S k v0 T0 l F q t (sn S 0)) : spI S k v0 T0 l F q (t + 1) 0 := by
  obtain ⟨h1, h2, h3, h4, h5⟩ := h
  refine ⟨h1, h2, h3, fun u hu hb => ?_, fun u hu hb y hy hy2 => h5 u hu hb y hy (by omega)⟩
  obtain ⟨x, g1, g2, g3, g4⟩ := h4 u hu hb
  exact ⟨x, g1, by omega, Or.inl (by omega), g4⟩
/-- a village where one isn't yet, or has been left, or where one is barred -/
theorem spI.skip {S : Nat → Int32} {k v0 T0 l : Nat} {F : Nat → Nat} {q t j : Nat} (h : spI S k v0 T0 l F q t j) (hj : t < F j ∨ q.testBit j = true ∨ bd S k j t = true) : spI S k v0 T0 l F q t (j + 1) := by
  obtain ⟨h1, h2, h3, h4, h5⟩ := h
  refine ⟨h1, h2, h3, fun u hu hb => ?_, fun u hu hb y hy hy2 => ?_⟩
  · obtain ⟨x, g1, g2, g3, g4⟩ := h4 u hu hb
    exact ⟨x, g1, g2, by omega, g4⟩
  · by_cases e : y = t ∧ u = j
    · obtain ⟨rfl, rfl⟩ := e
      rcases hj with h9 | h9 | h9
      · omega
      · rw [hb] at h9; cases h9
      · exact h9
    · exact h5 u hu hb y hy (by omega)
/-- a village is left -/
theorem spI.leave {B : Nat} {S : Nat → Int32} (hI : Inv B S) {k v0 T0 l : Nat} {F : Nat → Nat} {q t j : Nat} (h : spI S k v0 T0 l F q t j) (hl : l < 2000000000) (hj : j < sn S 0) (hF : F j ≤ t) (ht : t < l) (hq : q.testBit j = false) (hb : bd S k j t = false) : spI S k v0 T0 l (lvF S j t l F (sn S 3)) (q ||| 2 ^ j) t (j + 1) := by
  have b0 := hI.b0
  obtain ⟨h1, h2, h3, h4, h5⟩ := h
  obtain ⟨a1, a2, a3⟩ := lvF_ok (S := S) (v := j) (t := t) (l := l) (F := F) (sn S 3)
  generalize lvF S j t l F (sn S 3) = G at a1 a2 a3
  have a4 : ∀ u, G u = F u ∨ t < G u := fun u => by
    rcases a3 u with g | ⟨r, g1, g2, g3, g4, g5⟩
    · exact Or.inl g
    · have := (hI.roa g1).2.2.2.1
      exact Or.inr (by omega)
  have a5 : ∀ u, F u ≤ t → G u = F u := fun u hu => by
    rcases a4 u with g | g
    · exact g
    · have := a1 u; omega
  refine ⟨fun u hu => ?_, ?_, or_lt (n := 6) h3 (pow_lt2 (by omega)), fun u hu hbu => ?_, fun u hu hbu y hy hy2 => ?_⟩
  · rcases a3 u with g | ⟨r, g1, g2, g3, g4, g5⟩
    · rw [g]; exact h1 u hu
    · refine Or.inr ⟨by omega, ?_⟩
      rw [g4, ← g3]
      rcases h1 j hj with g9 | g9
      · omega
      · exact (g9.2.mono hF).go hb g1 g2
  · have := a1 v0; omega
  · rw [tb_or] at hbu
    by_cases e : j = u
    · subst e
      refine ⟨t, by rw [a5 j hF]; exact hF, Nat.le_refl _, Or.inr (by omega), fun y hy hy2 => h5 j hj hq y (by rw [a5 j hF] at hy; exact hy) (Or.inl hy2), fun r hr ho hrl => a2 r hr ho hrl⟩
    · rw [decide_eq_false e, Bool.or_false] at hbu
      obtain ⟨x, g1, g2, g3, g4, g5⟩ := h4 u hu hbu
      rw [a5 u (by omega)]
      exact ⟨x, g1, g2, by omega, g4, fun r hr ho hrl => Nat.le_trans (a1 _) (g5 r hr ho hrl)⟩
  · rw [tb_or] at hbu
    have hbu2 : q.testBit u = false ∧ ¬ j = u := by
      rw [Bool.or_eq_false_iff] at hbu
      exact ⟨hbu.1, of_decide_eq_false hbu.2⟩
    rcases a4 u with g | g
    · rw [g] at hy
      exact h5 u hu hbu2.1 y hy (by omega)
    · omega
/-- .. and so at the end -/
theorem spI.done {B : Nat} {S : Nat → Int32} (hI : Inv B S) {k v0 T0 l : Nat} {F : Nat → Nat} {q t : Nat} (h : spI S k v0 T0 l F q t 0) (hl : l < 2000000000) (hv : v0 < sn S 0) (he : l ≤ t ∨ ∀ u, u < sn S 0 → F u ≠ 2000000000 → q.testBit u = true) : spP S k v0 T0 l F := by
  obtain ⟨h1, h2, h3, h4, h5⟩ := h
  refine ⟨h1, fun T u hu hT hR => ?_⟩
  refine (hR (fun T u => u < sn S 0 ∧ (T ≤ l → F u ≤ T)) ⟨hv, fun _ => h2⟩ (fun T v g => ⟨g.1, fun hT => by have := g.2 (by omega); omega⟩) (fun T v r g hb hr ho => ⟨otN_lt hI hr _, fun hT => ?_⟩)).2 hT
  have hlen := (hI.roa hr).2.2.2.1
  have hF := g.2 (by omega)
  by_cases c : q.testBit v = true
  · obtain ⟨x, g1, g2, g3, g4, g5⟩ := h4 v g.1 c
    rcases Nat.lt_or_ge T x with g9 | g9
    · rw [g4 T hF g9] at hb; cases hb
    · have := g5 r hr ho (by omega)
      omega
  · have c : q.testBit v = false := by simpa using c
    rcases he with g9 | g9
    · rw [h5 v g.1 c T hF (Or.inl (by omega))] at hb; cases hb
    · rw [g9 v g.1 (by omega)] at c; cases c
theorem bset_zero {P : Nat → Bool} {n : Nat} (h : bset P n = 0) {u : Nat} (hu : u < n) : P u = false := by
  have := bset_bit P n u
  rw [h, Nat.zero_testBit, decide_eq_true hu, Bool.true_and] at this
  exact this.symm
/-- what spreading may write -/
def SF (sg s : Mg) : Prop := ∀ c, c ≠ 9 → c ≠ 10 → c ≠ 201 → c ≠ 213 → s c = sg c
theorem SF.rf (sg : Mg) : SF sg sg := fun _ _ _ _ _ => rfl
theorem SF.tr {a b c : Mg} (h : SF a b) (g : SF b c) : SF a c := fun x h1 h2 h3 h4 => (g x h1 h2 h3 h4).trans (h x h1 h2 h3 h4)
theorem SF.wf {a b : Mg} (h : WF a b) : SF a b := fun x h1 _ h3 h4 => h x h1 h3 h4
theorem SF.L {sg s : Mg} {S : Nat → Int32} (h : SF sg s) (hL : cwL 250 sg S) : cwL 250 s S := hL.eqc (fun c c1 c2 => h c (by omega) (by omega) (by omega) (by omega))
theorem SF.D {sg s : Mg} {S : Nat → Int32} (h : SF sg s) (hD : cwD 200 sg S) : cwD 200 s S := hD.eqc (fun c c1 => h c (by omega) (by omega) (by omega) (by omega))
theorem SF.W {sg s : Mg} {S : Nat → Int32} (h : SF sg s) (hW : LW S sg) : LW S s := hW.eqc (fun c c1 c2 => h c (by omega) (by omega) (by omega) (by omega))
theorem soM.eq {s s' : Mg} {F : Nat → Nat} (h : soM s F) (e : s' 10 = s 10) : soM s' F := fun u hu => by rw [e]; exact h u hu
/-- the villages of one time -/
theorem l_87_30 {X : Nat × (Nat → Int32)} {d : Nat} {p : Nat → Nat} {sg : Mg} {B : Nat} {S : Nat → Int32} (hI : Inv B S) (hL : cwL 250 sg S) (hD : cwD 200 sg S) (hW : LW S sg) (hB : bOK S sg) {Q : am_R → Prop} {k v0 T0 l t q : Nat} {F : Nat → Nat} (hk : k < sn S 1) (hl : l ≤ sn S 8 + 400) (hl2 : l ≤ 200400) (h8 : sn S 8 ≤ t) (ht : t < l) (hM : soM sg F) (hP : spI S k v0 T0 l F q t 0) {z2 z3 z9 : Option AV}
    (x : ∀ s F q z9, SF sg s → bOK S s → soM s F → spI S k v0 T0 l F q t (sn S 0) → gW X (d + 5) k_87 76 [some (vR 8), some (vI (nI k)), z2, z3, some (vI (nI l)), some (vI (nI 0)), some (vI (nI q)), some (vI (nI t)), some (vI (nI 0)), z9] [] p s Q) :
    gW X (d + 5) k_87 30 [some (vR 8), some (vI (nI k)), z2, z3, some (vI (nI l)), some (vI (nI 0)), some (vI (nI q)), some (vI (nI t)), some (vI (nI 0)), z9] [] p sg Q := by
  have b0 := hI.b0; have b1 := hI.b1
  have key := g_upI (P := fun j => ∀ s F q z9, SF sg s → bOK S s → soM s F → spI S k v0 T0 l F q t j → gW X (d + 5) k_87 30 [some (vR 8), some (vI (nI k)), z2, z3, some (vI (nI l)), some (vI (nI 0)), some (vI (nI q)), some (vI (nI t)), some (vI (nI j)), z9] [] p s Q) (I := fun _ => True) (n := sn S 0) (a := 0) (by omega) trivial ?_ ?_
  · exact key sg F q z9 (SF.rf _) hB hM hP
  · intro j _ hj _ ih s F q z9 hs hB hM hP
    have ih := ih trivial
    have m := hM j (by omega)
    have q6 : q < 64 := hP.2.2.1
    refine b_87_30 hI (hs.L hL) (hs.D hD) (hs.W hW) hB (by omega) hl2 (by omega) (by omega) (by omega) (by omega) hk h8 (by omega) (fun h => by omega) (fun _ h => ?_) (fun _ h h2 => ?_) (fun _ h h2 s7 h7 h3 => ?_) (fun _ h h2 s7 h7 h3 => ?_)
    · rw [m.1, nI_ltI (by omega) (by omega)] at h
      exact ih _ _ _ _ hs hB hM (hP.skip (Or.inl h))
    · rw [nI_bit0 (by omega) (by omega)] at h2
      exact ih _ _ _ _ hs hB hM (hP.skip (Or.inr (Or.inl (by simpa using h2))))
    · exact ih _ _ _ _ (hs.tr (SF.wf h7.1)) h7.2 (hM.eq (h7.1 10 (by decide) (by decide) (by decide))) (hP.skip (Or.inr (Or.inr h3)))
    · rw [m.1, nI_ltI (by omega) (by omega)] at h
      rw [nI_bit0 (by omega) (by omega)] at h2
      have hs7 := hs.tr (SF.wf h7.1)
      have hM7 : soM s7 F := hM.eq (h7.1 10 (by decide) (by decide) (by decide))
      have hP' := hP.leave hI (by omega) hj (by omega) ht h2 (by simpa using h3)
      rw [nI_orbit (by omega)]
      refine g_pure 4 (i' := 71) (lv' := [some (vR 8), some (vI (nI k)), z2, z3, some (vI (nI l)), some (vI (nI 0)), some (vI (nI (q ||| 2 ^ j))), some (vI (nI t)), some (vI (nI j)), some (vI 1)]) (st' := [vI (nI l), vI (nI t), vI (nI j), vR 8]) rfl ?_
      refine g_cV0E rfl (args := [vR 8, vI (nI j), vI (nI t), vI (nI l)]) (rest := []) rfl rfl rfl (s_89 (d := d + 2) hI (hs7.L hL) (hs7.D hD) hj (by omega) hl2 hM7) (fun s8 h8 => ?_)
      refine g_pure 2 (i' := 30) (lv' := [some (vR 8), some (vI (nI k)), z2, z3, some (vI (nI l)), some (vI (nI 0)), some (vI (nI (q ||| 2 ^ j))), some (vI (nI t)), some (vI (nI j + 1)), some (vI 1)]) (st' := []) rfl ?_
      refine gW_eq (lv' := [some (vR 8), some (vI (nI k)), z2, z3, some (vI (nI l)), some (vI (nI 0)), some (vI (nI (q ||| 2 ^ j))), some (vI (nI t)), some (vI (nI (j + 1))), some (vI 1)]) (by rw [nI_succ]) rfl rfl ?_
      exact ih _ _ _ _ (hs7.tr (fun c _ c2 _ _ => h8.1 c c2)) (h7.2.eq (h8.1 8 (by decide)) (h8.1 9 (by decide))) h8.2 hP'
  · intro _ s F q z9 hs hB hM hP
    have q6 : q < 64 := hP.2.2.1
    exact b_87_30 hI (hs.L hL) (hs.D hD) (hs.W hW) hB (by omega) hl2 (by omega) (by omega) (by omega) (by omega) hk h8 (by omega) (fun _ => x s F q z9 hs hB hM hP) (fun h => by omega) (fun h => by omega) (fun h => by omega) (fun h => by omega)
/-- who waits -/
def wtP (F : Nat → Nat) (q : Nat) (u : Nat) : Bool := decide (¬ F u = 2000000000) && !q.testBit u
theorem l_87_76 {X : Nat × (Nat → Int32)} {d : Nat} {p : Nat → Nat} {sg : Mg} {B : Nat} {S : Nat → Int32} (hI : Inv B S) (hL : cwL 250 sg S) (hD : cwD 200 sg S) (hW : LW S sg) (hB : bOK S sg) {Q : am_R → Prop} {k l t q : Nat} {F : Nat → Nat} (hk : k < sn S 1) (hl2 : l ≤ 200400) (ht : t < l) (hq : q < 64) (hM : soM sg F) {z2 z3 z9 : Option AV}
    (x : ∀ z8 z9, gW X (d + 5) k_87 21 [some (vR 8), some (vI (nI k)), z2, z3, some (vI (nI l)), some (vI (nI (bset (wtP F q) (sn S 0)))), some (vI (nI q)), some (vI (nI (t + 1))), z8, z9] [] p sg Q) :
    gW X (d + 5) k_87 76 [some (vR 8), some (vI (nI k)), z2, z3, some (vI (nI l)), some (vI (nI 0)), some (vI (nI q)), some (vI (nI t)), some (vI (nI 0)), z9] [] p sg Q := by
  have b0 := hI.b0; have b1 := hI.b1
  have key := g_upI (P := fun j => gW X (d + 5) k_87 76 [some (vR 8), some (vI (nI k)), z2, z3, some (vI (nI l)), some (vI (nI (bset (wtP F q) j))), some (vI (nI q)), some (vI (nI t)), some (vI (nI j)), z9] [] p sg Q) (I := fun _ => True) (n := sn S 0) (a := 0) (by omega) trivial ?_ ?_
  · exact key
  · intro j _ hj _ ih
    have ih := ih trivial
    have m := hM j (by omega)
    have bw := bset_up (P := wtP F q) (n := j) (m := 6) (by omega)
    have e0 : wtP F q j = false → bset (wtP F q) (j + 1) = bset (wtP F q) j := fun h => by show (if _ then _ else _) = _; rw [h]; rfl
    refine b_87_76 hI hL hD hW hB (by omega) hl2 (by omega) (by omega) (by omega) (by omega) (fun h => by omega) (fun _ h => ?_) (fun _ h h2 => ?_) (fun _ h h2 => ?_)
    · rw [m.1, show (2000000000 : Int32) = nI 2000000000 from rfl, nI_eq (by omega) (by omega)] at h
      rw [← e0 (by unfold wtP; rw [decide_eq_false (fun h9 => h9 h)]; rfl)]
      exact ih
    · rw [nI_bit0 (by omega) (by omega)] at h2
      have h2 : q.testBit j = true := by simpa using h2
      rw [← e0 (by unfold wtP; rw [h2, Bool.not_true, Bool.and_false])]
      exact ih
    · rw [m.1, show (2000000000 : Int32) = nI 2000000000 from rfl, nI_eq (by omega) (by omega)] at h
      rw [nI_bit0 (by omega) (by omega)] at h2
      rw [nI_orbit (by omega)]
      have e1 : bset (wtP F q) (j + 1) = bset (wtP F q) j ||| 2 ^ j := by
        show (if wtP F q j = true then _ else _) = _
        unfold wtP
        rw [decide_eq_true h, h2]
        rfl
      rw [← e1]
      exact ih
  · intro _
    have bw := bset_up (P := wtP F q) (n := sn S 0) (m := 6) (by omega)
    exact b_87_76 hI hL hD hW hB (by omega) hl2 (by omega) (by omega) (by omega) (by omega) (fun _ => x _ _) (fun h => by omega) (fun h => by omega) (fun h => by omega)
theorem s_87 {X : Nat × (Nat → Int32)} {d : Nat} {p : Nat → Nat} {sg : Mg} {B : Nat} {S : Nat → Int32} (hI : Inv B S) (hL : cwL 250 sg S) (hD : cwD 200 sg S) (hW : LW S sg) (hB : bOK S sg) {k v f l : Nat} (hk : k < sn S 1) (hv : v < sn S 0) (h1 : sn S 8 ≤ f) (h2 : f ≤ 200405) (h3 : l ≤ sn S 8 + 400) : gF X (d + 6) 87 [vR 8, vI (nI k), vI (nI v), vI (nI f), vI (nI l)] p sg (fun r => ∃ s, (SF sg s ∧ bOK S s ∧ ∃ F, soM s F ∧ spP S k v f l F) ∧ r = gR0 p s) := by
  have b0 := hI.b0; have b1 := hI.b1; have b8 := hI.b8
  refine g_in (cd := k_87) (nL := 10) (rc := 10) rfl (g_A (a := 8) (kd := 0) (n := 9) rfl (by decide)) (g_c1 rfl) ?_
  show gW X (d + 5) k_87 0 [some (vR 8), some (vI (nI k)), some (vI (nI v)), some (vI (nI f)), some (vI (nI l)), none, none, none, none, none] [] p sg _
  refine g_pure 3 (i' := 3) (lv' := [some (vR 8), some (vI (nI k)), some (vI (nI v)), some (vI (nI f)), some (vI (nI l)), none, none, none, none, none]) (st' := [vI 2000000000, vR 10]) rfl ?_
  refine g_calS rfl (args := [vR 10, vI 2000000000]) (rest := []) rfl rfl (Nat.zero_le _) (s_318 (d := d + 4) (g_A (a := 10) (kd := 1) (n := 6) rfl (by decide)) (by omega)) (fun q hq => ?_)
  obtain ⟨s1, g1, rfl⟩ := hq
  refine gK_0 ?_
  have hs1 : SF sg s1 := fun c _ c2 _ _ => g1.1 c c2
  have hB1 : bOK S s1 := hB.eq (g1.1 8 (by decide)) (g1.1 9 (by decide))
  have hM1 : soM s1 (fun _ => 2000000000) := fun u hu => ⟨g1.2 u hu, Nat.le_refl _⟩
  refine g_pure 2 (i' := 6) (lv' := [some (vR 8), some (vI (nI k)), some (vI (nI v)), some (vI (nI f)), some (vI (nI l)), none, none, none, none, none]) (st' := [vI (nI l), vI (nI f)]) rfl ?_
  refine g_if2 (i' := 8) (P := f ≤ l) rfl rfl (g_leN rfl rfl (by omega) (by omega)) (fun hfl => ?_) (fun hfl => ?_)
  · refine b_87_8 hI (hs1.L hL) (hs1.D hD) (hs1.W hW) hB1 (by omega) (by omega) (by omega) (by omega) (fun s2 e2 => ?_)
    rw [nI_shl1 (by omega)]
    have hs2 : SF sg s2 := hs1.tr (fun c _ c2 _ _ => by rw [e2, mu_ne c2])
    have hB2 : bOK S s2 := by rw [e2]; exact hB1.out (by decide)
    have hM2 := hM1.up (u := v) (show f ≤ 2000000000 by omega)
    rw [← e2] at hM2
    have hP : spI S k v f l (fun i => if i = v then f else 2000000000) 0 f 0 := by
      refine ⟨fun u hu => ?_, by dsimp only; rw [if_pos rfl]; exact Nat.le_refl _, by decide, fun u hu hb => (by rw [Nat.zero_testBit] at hb; cases hb), fun u hu hb y hy hy2 => ?_⟩
      · by_cases e : u = v
        · subst e; dsimp only; rw [if_pos rfl]; exact Or.inr ⟨hfl, Rch.base⟩
        · dsimp only; rw [if_neg e]; exact Or.inl rfl
      · by_cases e : u = v
        · subst e; dsimp only at hy; rw [if_pos rfl] at hy; omega
        · dsimp only at hy; rw [if_neg e] at hy; omega
    -- time by time
    have key := g_upI (P := fun t => ∀ s F q w z8 z9, SF sg s → bOK S s → soM s F → spI S k v f l F q t 0 → w < 64 → (w = 0 → ∀ u, u < sn S 0 → F u ≠ 2000000000 → q.testBit u = true) → gW X (d + 5) k_87 21 [some (vR 8), some (vI (nI k)), some (vI (nI v)), some (vI (nI f)), some (vI (nI l)), some (vI (nI w)), some (vI (nI q)), some (vI (nI t)), z8, z9] [] p s (fun r => ∃ s, (SF sg s ∧ bOK S s ∧ ∃ F, soM s F ∧ spP S k v f l F) ∧ r = gR0 p s)) (I := fun _ => True) (n := l) (a := f) hfl trivial ?_ ?_
    · exact key s2 _ 0 (2 ^ v) none none hs2 hB2 hM2 hP (pow_lt2 (n := 6) (by omega)) (fun h => by have := Nat.one_le_two_pow (n := v); omega)
    · intro t ht1 ht2 _ ih s F q w z8 z9 hs hB hM hP hw hwz
      have ih := ih trivial
      have q6 : q < 64 := hP.2.2.1
      refine b_87_21 hI (hs.L hL) (hs.D hD) (hs.W hW) hB (by omega) (by omega) (by omega) (by omega) (by omega) (fun h => by omega) (fun _ h => ?_) (fun _ h => ?_)
      · exact ⟨s, ⟨hs, hB, F, hM, hP.done hI (by omega) hv (Or.inr (hwz h))⟩, rfl⟩
      · refine l_87_30 hI (hs.L hL) (hs.D hD) (hs.W hW) hB hk h3 (by omega) (by omega) ht2 hM hP (fun s' F' q' z9' hs' hB' hM' hP' => ?_)
        have hs'' := hs.tr hs'
        refine l_87_76 hI (hs''.L hL) (hs''.D hD) (hs''.W hW) hB' hk (by omega) ht2 hP'.2.2.1 hM' (fun z8 z9 => ?_)
        refine ih _ _ _ _ _ _ hs'' hB' hM' hP'.next (show _ < 2 ^ 6 from bset_up (by omega)) (fun h u hu hF => ?_)
        have := bset_zero h hu
        unfold wtP at this
        rw [decide_eq_true hF, Bool.true_and] at this
        simpa using this
    · intro _ s F q w z8 z9 hs hB hM hP hw hwz
      have q6 : q < 64 := hP.2.2.1
      exact b_87_21 hI (hs.L hL) (hs.D hD) (hs.W hW) hB (by omega) (by omega) (by omega) (by omega) (by omega) (fun _ => ⟨s, ⟨hs, hB, F, hM, hP.done hI (by omega) hv (Or.inl (Nat.le_refl _))⟩, rfl⟩) (fun h => by omega) (fun h => by omega)
  · refine g_vret rfl ⟨s1, ⟨hs1, hB1, _, hM1, fun _ _ => Or.inl rfl, fun T u _ hT hR => ?_⟩, rfl⟩
    have := hR.ge
    omega
