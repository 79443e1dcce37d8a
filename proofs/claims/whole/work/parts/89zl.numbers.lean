/-! TEXTS: numbers, fails, lines, in the class (made by wip/whole/gen89zl.py) -/
theorem b_77_3 {X : Nat × (Nat → Int32)} {d : Nat} {p : Nat → Nat} {sg : Mg} {Q : am_R → Prop} {n : Nat} (u_n : n ≤ 400) (kn_1_2 : sg 1 2 = nI n) {b : Nat} (u_b : b ≤ 400) (kn_1_3 : sg 1 3 = nI b) {e : Nat} (u_e : e ≤ 400) (kn_1_4 : sg 1 4 = nI e) {g : Nat} {lo : Nat} {hi : Int32} (u_g : g ≤ 4) (u_lo : lo ≤ 9999) (hbe : b ≤ e)
    (o1 : ((e - b) ≤ g) → gW X (d + 1) k_77 19 [some (vR 1), some (vI (nI g)), some (vI (nI lo)), some (vI hi), some (vI 0), some (vI (nI b))] [] p sg Q)
    (o2 : (¬ ((e - b) ≤ g)) → gW X (d + 1) k_77 10 [some (vR 1), some (vI (nI g)), some (vI (nI lo)), some (vI hi), none, none] [] p sg Q) :
    gW X (d + 1) k_77 3 [some (vR 1), some (vI (nI g)), some (vI (nI lo)), some (vI hi), none, none] [] p sg Q := by
  refine g_pure 1 (i' := 4) (lv' := [some (vR 1), some (vI (nI g)), some (vI (nI lo)), some (vI hi), none, none]) (st' := [vR 1]) rfl ?_
  refine g_getI rfl (g_A (a := 1) (kd := 0) (n := 8) rfl (by decide)) (show _ = nI e from kn_1_4) ?_
  refine g_pure 1 (i' := 6) (lv' := [some (vR 1), some (vI (nI g)), some (vI (nI lo)), some (vI hi), none, none]) (st' := [vR 1, vI (nI e)]) rfl ?_
  refine g_getI rfl (g_A (a := 1) (kd := 0) (n := 8) rfl (by decide)) (show _ = nI b from kn_1_3) ?_
  refine g_pure 2 (i' := 9) (lv' := [some (vR 1), some (vI (nI g)), some (vI (nI lo)), some (vI hi), none, none]) (st' := [vI (nI g), vI (nI e - nI b)]) rfl ?_
  refine gW_eq (lv' := [some (vR 1), some (vI (nI g)), some (vI (nI lo)), some (vI hi), none, none]) (st' := [vI (nI g), vI (nI (e - b))]) rfl (by rw [(show (nI e - nI b) = nI (e - b) from (g_sub (rfl : nI e = nI e) (rfl : nI b = nI b) (by omega)))]) rfl ?_
  refine g_if2 (i' := 14) (P := (e - b) ≤ g) rfl rfl (g_leN (show nI (e - b) = nI (e - b) from (rfl : nI (e - b) = nI (e - b))) (show nI g = nI g from (rfl : nI g = nI g)) (by omega) (by omega)) (fun h1 => ?_) (fun h1 => ?_)
  · refine g_pure 3 (i' := 17) (lv' := [some (vR 1), some (vI (nI g)), some (vI (nI lo)), some (vI hi), some (vI 0), none]) (st' := [vR 1]) rfl ?_
    refine g_getI rfl (g_A (a := 1) (kd := 0) (n := 8) rfl (by decide)) (show _ = nI b from kn_1_3) ?_
    refine g_pure 1 (i' := 19) (lv' := [some (vR 1), some (vI (nI g)), some (vI (nI lo)), some (vI hi), some (vI 0), some (vI (nI b))]) (st' := []) rfl ?_
    exact o1 h1
  · exact o2 h1

theorem b_77_19 {X : Nat × (Nat → Int32)} {d : Nat} {p : Nat → Nat} {sg : Mg} {Q : am_R → Prop} {n : Nat} (u_n : n ≤ 400) (kn_1_2 : sg 1 2 = nI n) {b : Nat} (u_b : b ≤ 400) (kn_1_3 : sg 1 3 = nI b) {e : Nat} (u_e : e ≤ 400) (kn_1_4 : sg 1 4 = nI e) {x : Nat} {z1 : Option AV} {lo : Nat} {hi : Int32} {v : Nat} {a : Nat} (u_lo : lo ≤ 9999) (u_v : v ≤ 9999) (u_a : a ≤ 400) (hx : a < e → sg 2 a = nI x) (u_x : 48 ≤ x ∧ x ≤ 57)
    (o1 : (e ≤ a) → (v < lo) → gW X (d + 1) k_77 42 [some (vR 1), z1, some (vI (nI lo)), some (vI hi), some (vI (nI v)), some (vI (nI a))] [] p sg Q)
    (o2 : (e ≤ a) → (¬ (v < lo)) → (nI v ≤ hi) → gW X (d + 1) k_77 46 [some (vR 1), z1, some (vI (nI lo)), some (vI hi), some (vI (nI v)), some (vI (nI a))] [] p sg Q)
    (o3 : (e ≤ a) → (¬ (v < lo)) → (¬ (nI v ≤ hi)) → gW X (d + 1) k_77 42 [some (vR 1), z1, some (vI (nI lo)), some (vI hi), some (vI (nI v)), some (vI (nI a))] [] p sg Q)
    (o4 : (¬ (e ≤ a)) → gW X (d + 1) k_77 19 [some (vR 1), z1, some (vI (nI lo)), some (vI hi), some (vI (nI (10 * v + x - 48))), some (vI (nI (a + 1)))] [] p sg Q) :
    gW X (d + 1) k_77 19 [some (vR 1), z1, some (vI (nI lo)), some (vI hi), some (vI (nI v)), some (vI (nI a))] [] p sg Q := by
  refine g_pure 2 (i' := 21) (lv' := [some (vR 1), z1, some (vI (nI lo)), some (vI hi), some (vI (nI v)), some (vI (nI a))]) (st' := [vR 1, vI (nI a)]) rfl ?_
  refine g_getI rfl (g_A (a := 1) (kd := 0) (n := 8) rfl (by decide)) (show _ = nI e from kn_1_4) ?_
  refine g_if2 (i' := 36) (P := e ≤ a) rfl rfl (g_geN (show nI a = nI a from (rfl : nI a = nI a)) (show nI e = nI e from (rfl : nI e = nI e)) (by omega) (by omega)) (fun h1 => ?_) (fun h1 => ?_)
  · refine g_pure 2 (i' := 38) (lv' := [some (vR 1), z1, some (vI (nI lo)), some (vI hi), some (vI (nI v)), some (vI (nI a))]) (st' := [vI (nI lo), vI (nI v)]) rfl ?_
    refine g_if2 (i' := 42) (P := v < lo) rfl rfl (g_ltN (show nI v = nI v from (rfl : nI v = nI v)) (show nI lo = nI lo from (rfl : nI lo = nI lo)) (by omega) (by omega)) (fun h2 => ?_) (fun h2 => ?_)
    · exact o1 h1 h2
    · refine g_pure 2 (i' := 41) (lv' := [some (vR 1), z1, some (vI (nI lo)), some (vI hi), some (vI (nI v)), some (vI (nI a))]) (st' := [vI hi, vI (nI v)]) rfl ?_
      refine g_if2 (i' := 46) (P := nI v ≤ hi) rfl rfl Iff.rfl (fun h3 => ?_) (fun h3 => ?_)
      · exact o2 h1 h2 h3
      · exact o3 h1 h2 h3
  · refine g_pure 6 (i' := 29) (lv' := [some (vR 1), z1, some (vI (nI lo)), some (vI hi), some (vI (nI v)), some (vI (nI a))]) (st' := [vI (nI a), vR 2, vI (nI v * 10)]) rfl ?_
    refine gW_eq (lv' := [some (vR 1), z1, some (vI (nI lo)), some (vI hi), some (vI (nI v)), some (vI (nI a))]) (st' := [vI (nI a), vR 2, vI (nI (10 * v))]) rfl (by rw [(show (nI v * 10) = nI (10 * v) from ((g_mul (rfl : nI v = nI v) (show (10 : Int32) = nI 10 from rfl))).trans (congrArg nI (by omega)))]) rfl ?_
    refine g_bald rfl (by decide) (g_A (a := 2) (kd := 2) (n := 400) rfl (by decide)) (by decide) (show nI a = nI a from (rfl : nI a = nI a)) (by omega) (show _ = nI x from (hx (by omega))) ?_
    refine g_pure 2 (i' := 32) (lv' := [some (vR 1), z1, some (vI (nI lo)), some (vI hi), some (vI (nI v)), some (vI (nI a))]) (st' := [vI 48, vI (nI (10 * v) + nI x)]) rfl ?_
    refine gW_eq (lv' := [some (vR 1), z1, some (vI (nI lo)), some (vI hi), some (vI (nI v)), some (vI (nI a))]) (st' := [vI 48, vI (nI (10 * v + x))]) rfl (by rw [(show (nI (10 * v) + nI x) = nI (10 * v + x) from ((g_add (rfl : nI (10 * v) = nI (10 * v)) (rfl : nI x = nI x))).trans (congrArg nI (by omega)))]) rfl ?_
    refine g_pure 4 (i' := 19) (lv' := [some (vR 1), z1, some (vI (nI lo)), some (vI hi), some (vI (nI (10 * v + x) - 48)), some (vI (nI a + 1))]) (st' := []) rfl ?_
    refine gW_eq (lv' := [some (vR 1), z1, some (vI (nI lo)), some (vI hi), some (vI (nI (10 * v + x - 48))), some (vI (nI (a + 1)))]) (st' := []) (by rw [(show (nI (10 * v + x) - 48) = nI (10 * v + x - 48) from (g_sub (rfl : nI (10 * v + x) = nI (10 * v + x)) (show (48 : Int32) = nI 48 from rfl) (by omega))), (show (nI a + 1) = nI (a + 1) from ((g_add (rfl : nI a = nI a) (show (1 : Int32) = nI 1 from rfl))).trans (congrArg nI (by omega)))]) rfl rfl ?_
    exact o4 h1

theorem b_75_0 {X : Nat × (Nat → Int32)} {d : Nat} {p : Nat → Nat} {sg : Mg} {Q : am_R → Prop} {y : Int32}
    (o1 : ∀ s1 : Mg, s1 = mu sg 1 5 y → Q (gRx p s1 0)) :
    gW X (d) k_75 0 [some (vR 1), some (vI y)] [] p sg Q := by
  refine g_pure 2 (i' := 2) (lv' := [some (vR 1), some (vI y)]) (st' := [vI y, vR 1]) rfl ?_
  refine g_putI rfl (g_A (a := 1) (kd := 0) (n := 8) rfl (by decide)) ?_
  refine g_setv (fun s1 es1 => ?_)
  refine g_thr' rfl rfl ?_
  exact o1 s1 es1

/-- the tape failed at f -/
def CF (f : Nat) (sg s : Mg) : Prop := (∀ c, c ≠ 1 → s c = sg c) ∧ s 1 1 = sg 1 1 ∧ s 1 5 = nI f
theorem s_75 {X : Nat × (Nat → Int32)} {d : Nat} {p : Nat → Nat} {sg : Mg} {f : Nat} : gF X (d + 1) 75 [vR 1, vI (nI f)] p sg (fun r => ∃ s, CF f sg s ∧ r = gRx p s 0) :=
  g_in (cd := k_75) (nL := 2) (rc := 9) rfl (g_A (a := 1) (kd := 0) (n := 8) rfl (by decide)) (g_c1 rfl) (b_75_0 (fun s1 e1 => ⟨s1, ⟨fun c hc => by rw [e1, mu_ne hc], by rw [e1, mu_idx (by decide)], by rw [e1, mu_self]⟩, rfl⟩))
theorem CF.cn {f : Nat} {sg s s' : Mg} (h : CN sg s) (g : CF f s s') : CF f sg s' := ⟨fun c hc => (g.1 c hc).trans (h.1 c hc), g.2.1.trans (h.2 1 (by decide) (by decide)), g.2.2⟩
theorem CN.tr {sg s s' : Mg} (h : CN sg s) (g : CN s s') : CN sg s' := ⟨fun c hc => (g.1 c hc).trans (h.1 c hc), fun f a b => (g.2 f a b).trans (h.2 f a b)⟩
section
variable {T : Nat → Int32} {n : Nat}
theorem isD_n {x : Int32} (h : isD x = true) : ∃ q, q ≤ 9 ∧ x = nI (48 + q) := by
  unfold isD at h
  have h : ¬ x < 48 ∧ ¬ 57 < x := by simpa using h
  obtain ⟨k, hk, e⟩ := okr_of (x := x) (a := 48) (b := 57) (lo := 48) (hi := 57) ⟨rfl, rfl, by decide, by decide⟩ h
  exact ⟨k - 48, by omega, by rw [e]; congr 1; omega⟩
theorem isD_L {x : Int32} (h : isD x = true) : ¬ isL x = true := by
  obtain ⟨q, hq, rfl⟩ := isD_n h
  have h9 : ∀ q, q < 10 → isL (nI (48 + q)) = false := by decide +kernel
  rw [h9 q (by omega)]
  decide
theorem isU_all {k : Nat} (hk : k ≤ n) (h : isU T n k) : ∀ j, spK T n k ≤ j → j < nxK T n k → isD (T j) = true := fun j h1 h2 => by
  unfold nxK enK at h2
  rw [if_pos h.1, if_neg (isD_L h.2), if_pos h.2] at h2
  obtain ⟨q1, q2, q3, q4⟩ := fnd_spec (fun i => !isD (T i)) (n - (spK T n k + 1)) (spK T n k + 1)
  by_cases e : j = spK T n k
  · rw [e]; exact h.2
  · have := q3 j (by omega) h2
    simpa using this
theorem valK_lt {b : Nat} : ∀ i, (∀ j, j < i → isD (T (b + j)) = true) → valK T b i < 10 ^ i
  | 0, _ => Nat.one_pos
  | i + 1, h => by
    have ih := valK_lt (b := b) i (fun j hj => h j (by omega))
    obtain ⟨q, hq, e⟩ := isD_n (h i (by omega))
    show valK T b i * 10 + ((T (b + i)).toNatClampNeg - 48) < 10 ^ (i + 1)
    rw [e, nI_clamp (by omega), Nat.pow_succ]
    omega
theorem numK_lt {k dg : Nat} (hk : k ≤ n) (h : isU T n k) (h2 : nxK T n k - spK T n k ≤ dg) (hd : dg ≤ 4) : numK T n k < 10000 := by
  have h1 := valK_lt (T := T) (b := spK T n k) (nxK T n k - spK T n k) (fun j hj => isU_all hk h _ (by omega) (by omega))
  exact Nat.lt_of_lt_of_le h1 (Nat.pow_le_pow_right (n := 10) (j := 4) (by decide) (by omega))
theorem hi_le {m v : Nat} (hm : m ≤ 100000) (hv : v < 100000) : nI v ≤ nI m - 1 ↔ v < m := by
  rcases Nat.eq_zero_or_pos m with h | h
  · subst h
    rw [show nI 0 - 1 = (-1 : Int32) from by decide, Int32.le_iff_toInt_le, nI_toInt (by omega)]
    show ((v : Int) ≤ -1) ↔ _
    omega
  · rw [g_sub rfl (show (1 : Int32) = nI 1 from rfl) h, nI_leI (by omega) (by omega)]
    omega
end
theorem s_77 {X : Nat × (Nat → Int32)} {d : Nat} {p : Nat → Nat} {sg : Mg} {T : Nat → Int32} {n k g lo m : Nat} (h : CT T n k sg) (hg : g ≤ 4) (hlo : lo ≤ 9999) (hm : m ≤ 100000) : gF X (d + 2) 77 [vR 1, vI (nI g), vI (nI lo), vI (nI m - 1)] p sg (fun r => (tkP T n k g lo m ∧ ∃ s, (CT T n (nxK T n k) s ∧ CN sg s) ∧ r = gRv p s (nI (numK T n k))) ∨ (¬ tkP T n k g lo m ∧ ∃ s, CF (spK T n k) sg s ∧ r = gRx p s 0)) := by
  have h1 := spK_ok (T := T) h.1
  have hx := nxK_ok (T := T) h.1
  have hn := h.2.1
  refine g_in (cd := k_77) (nL := 6) (rc := 9) rfl (g_A (a := 1) (kd := 0) (n := 8) rfl (by decide)) (g_c1 rfl) ?_
  show gW X (d + 1) k_77 0 [some (vR 1), some (vI (nI g)), some (vI (nI lo)), some (vI (nI m - 1)), none, none] [] p sg _
  refine g_pure 1 (i' := 1) (lv' := [some (vR 1), some (vI (nI g)), some (vI (nI lo)), some (vI (nI m - 1)), none, none]) (st' := [vR 1]) rfl ?_
  refine g_cV1 rfl (args := [vR 1]) (rest := []) rfl rfl rfl (s_78 (d := d) h) ?_
  have b10 : ¬ tkP T n k g lo m → gW X (d + 1) k_77 10 [some (vR 1), some (vI (nI g)), some (vI (nI lo)), some (vI (nI m - 1)), none, none] [] p sg (fun r => (tkP T n k g lo m ∧ ∃ s, (CT T n (nxK T n k) s ∧ CN sg s) ∧ r = gRv p s (nI (numK T n k))) ∨ (¬ tkP T n k g lo m ∧ ∃ s, CF (spK T n k) sg s ∧ r = gRx p s 0)) := fun hb => by
    refine g_pure 2 (i' := 12) (lv' := [some (vR 1), some (vI (nI g)), some (vI (nI lo)), some (vI (nI m - 1)), none, none]) (st' := [vR 1, vR 1]) rfl ?_
    refine g_getI rfl (g_A (a := 1) (kd := 0) (n := 8) rfl (by decide)) (show _ = nI (spK T n k) from h.2.2.2.1) ?_
    exact g_cVxE rfl (args := [vR 1, vI (nI (spK T n k))]) (rest := []) rfl rfl rfl (s_75 (d := d)) (fun s hs => Or.inr ⟨hb, s, hs, rfl⟩)
  refine g_if1 (i' := 10) (P := ¬ dcN (isU T n k) = true) rfl rfl g_eqB (fun hu => b10 (fun g9 => (dcN_n.mp hu) g9.1)) (fun hu => ?_)
  have hu : isU T n k := dcN_i.mp (Classical.not_not.mp hu)
  refine b_77_3 hn h.2.2.1 (by omega) h.2.2.2.1 (by omega) h.2.2.2.2.1 hg hlo (by omega) (fun hd => ?_) (fun hd => b10 (fun g9 => hd g9.2.1))
  have hnum := numK_lt h.1 hu hd hg
  have hall := isU_all h.1 hu
  have fail : ∀ z1 z2, ¬ tkP T n k g lo m → gW X (d + 1) k_77 42 [some (vR 1), some (vI (nI g)), some (vI (nI lo)), some (vI (nI m - 1)), z1, z2] [] p sg (fun r => (tkP T n k g lo m ∧ ∃ s, (CT T n (nxK T n k) s ∧ CN sg s) ∧ r = gRv p s (nI (numK T n k))) ∨ (¬ tkP T n k g lo m ∧ ∃ s, CF (spK T n k) sg s ∧ r = gRx p s 0)) := fun z1 z2 hb => by
    refine g_pure 2 (i' := 44) (lv' := [some (vR 1), some (vI (nI g)), some (vI (nI lo)), some (vI (nI m - 1)), z1, z2]) (st' := [vR 1, vR 1]) rfl ?_
    refine g_getI rfl (g_A (a := 1) (kd := 0) (n := 8) rfl (by decide)) (show _ = nI (spK T n k) from h.2.2.2.1) ?_
    exact g_cVxE rfl (args := [vR 1, vI (nI (spK T n k))]) (rest := []) rfl rfl rfl (s_75 (d := d)) (fun s hs => Or.inr ⟨hb, s, hs, rfl⟩)
  have p4 : (10 : Nat) ^ (nxK T n k - spK T n k) ≤ 10 ^ 4 := Nat.pow_le_pow_right (by decide) (by omega)
  have key := g_upI (P := fun i => gW X (d + 1) k_77 19 [some (vR 1), some (vI (nI g)), some (vI (nI lo)), some (vI (nI m - 1)), some (vI (nI (valK T (spK T n k) i))), some (vI (nI (spK T n k + i)))] [] p sg (fun r => (tkP T n k g lo m ∧ ∃ s, (CT T n (nxK T n k) s ∧ CN sg s) ∧ r = gRv p s (nI (numK T n k))) ∨ (¬ tkP T n k g lo m ∧ ∃ s, CF (spK T n k) sg s ∧ r = gRx p s 0))) (I := fun _ => True) (n := nxK T n k - spK T n k) (a := 0) (by omega) trivial ?_ ?_
  · exact key
  · intro i _ hi _ ih
    have ih := ih trivial
    have hv := valK_lt (T := T) (b := spK T n k) i (fun j hj => hall _ (by omega) (by omega))
    have p5 : (10 : Nat) ^ i ≤ 10 ^ 3 := Nat.pow_le_pow_right (by decide) (by omega)
    obtain ⟨q, hq, e⟩ := isD_n (hall (spK T n k + i) (by omega) (by omega))
    refine b_77_19 (x := 48 + q) hn h.2.2.1 (by omega) h.2.2.2.1 (by omega) h.2.2.2.2.1 hlo (by omega) (by omega) (fun _ => (h.2.2.2.2.2 _ (by omega)).trans e) (by omega) (fun h => by omega) (fun h => by omega) (fun h => by omega) (fun _ => ?_)
    have e2 : valK T (spK T n k) (i + 1) = 10 * valK T (spK T n k) i + (48 + q) - 48 := by
      show valK T (spK T n k) i * 10 + ((T (spK T n k + i)).toNatClampNeg - 48) = _
      rw [e, nI_clamp (by omega)]
      omega
    rw [← e2]
    exact ih
  · intro _
    have e3 : valK T (spK T n k) (nxK T n k - spK T n k) = numK T n k := rfl
    rw [e3]
    refine b_77_19 (x := 48) hn h.2.2.1 (by omega) h.2.2.2.1 (by omega) h.2.2.2.2.1 hlo (by omega) (by omega) (fun h => by omega) (by omega) (fun _ c => fail _ _ (fun g9 => by have := g9.2.2.1; omega)) (fun _ c1 c2 => ?_) (fun _ _ c => fail _ _ (fun g9 => c ((hi_le hm (by omega)).mpr g9.2.2.2))) (fun h => by omega)
    rw [hi_le hm (by omega)] at c2
    refine g_pure 1 (i' := 47) (lv' := [some (vR 1), some (vI (nI g)), some (vI (nI lo)), some (vI (nI m - 1)), some (vI (nI (numK T n k))), some (vI (nI (spK T n k + (nxK T n k - spK T n k))))]) (st' := [vR 1]) rfl ?_
    refine g_cV0E (p' := p) rfl (args := [vR 1]) (rest := []) rfl rfl rfl (s_70 (d := d) h) (fun s hs => ?_)
    refine g_pure 1 (i' := 49) (lv' := [some (vR 1), some (vI (nI g)), some (vI (nI lo)), some (vI (nI m - 1)), some (vI (nI (numK T n k))), some (vI (nI (spK T n k + (nxK T n k - spK T n k))))]) (st' := [vI (nI (numK T n k))]) rfl ?_
    exact g_iret rfl (Or.inl ⟨⟨hu, hd, by omega, c2⟩, s, hs, rfl⟩)
theorem s_77a {X : Nat × (Nat → Int32)} {d : Nat} {p : Nat → Nat} {sg : Mg} {T : Nat → Int32} {n k g lo m : Nat} {hi : Int32} (h : CT T n k sg) (hg : g ≤ 4) (hlo : lo ≤ 9999) (hm : m ≤ 100000) (e : hi = nI m - 1) (c : tkP T n k g lo m) : gF X (d + 2) 77 [vR 1, vI (nI g), vI (nI lo), vI hi] p sg (fun r => ∃ s, (CT T n (nxK T n k) s ∧ CN sg s) ∧ r = gRv p s (nI (numK T n k))) := by
  subst e
  exact gF_mono (s_77 h hg hlo hm) (fun r hr => hr.elim (fun g => g.2) (fun g => absurd c g.1))
theorem s_77b {X : Nat × (Nat → Int32)} {d : Nat} {p : Nat → Nat} {sg : Mg} {T : Nat → Int32} {n k g lo m : Nat} {hi : Int32} (h : CT T n k sg) (hg : g ≤ 4) (hlo : lo ≤ 9999) (hm : m ≤ 100000) (e : hi = nI m - 1) (c : ¬ tkP T n k g lo m) : gF X (d + 2) 77 [vR 1, vI (nI g), vI (nI lo), vI hi] p sg (fun r => ∃ s, CF (spK T n k) sg s ∧ r = gRx p s 0) := by
  subst e
  exact gF_mono (s_77 h hg hlo hm) (fun r hr => hr.elim (fun g => absurd g.1 c) (fun g => g.2))
theorem s_73 {X : Nat × (Nat → Int32)} {d : Nat} {p : Nat → Nat} {sg : Mg} {T : Nat → Int32} {n k j : Nat} (hj : j < 77) (h : CT T n k sg) : gF X (d + 2) 73 [vR 1, vS j] p sg (fun r => (isW T n k (am_SL j) ∧ ∃ s, (CT T n (nxK T n k) s ∧ CN sg s) ∧ r = gR0 p s) ∨ (¬ isW T n k (am_SL j) ∧ ∃ s, CF (spK T n k) sg s ∧ r = gRx p s 0)) := by
  refine g_in (cd := k_73) (nL := 2) (rc := 9) rfl (g_A (a := 1) (kd := 0) (n := 8) rfl (by decide)) (g_c1 rfl) ?_
  show gW X (d + 1) k_73 0 [some (vR 1), some (vS j)] [] p sg _
  refine g_pure 2 (i' := 2) (lv' := [some (vR 1), some (vS j)]) (st' := [vS j, vR 1]) rfl ?_
  refine g_cV1 rfl (args := [vR 1, vS j]) (rest := []) rfl rfl rfl (s_74 (d := d) hj h) ?_
  refine g_if1 (i' := 8) (P := dcN (isW T n k (am_SL j)) = true) rfl rfl g_neB (fun hc => ?_) (fun hc => ?_)
  · refine g_pure 1 (i' := 9) (lv' := [some (vR 1), some (vS j)]) (st' := [vR 1]) rfl ?_
    refine g_cV0E (p' := p) rfl (args := [vR 1]) (rest := []) rfl rfl rfl (s_70 (d := d) h) (fun s hs => ?_)
    exact g_vret rfl (Or.inl ⟨dcN_i.mp hc, s, hs, rfl⟩)
  · refine g_pure 2 (i' := 6) (lv' := [some (vR 1), some (vS j)]) (st' := [vR 1, vR 1]) rfl ?_
    refine g_getI rfl (g_A (a := 1) (kd := 0) (n := 8) rfl (by decide)) (show _ = nI (spK T n k) from h.2.2.2.1) ?_
    exact g_cVxE rfl (args := [vR 1, vI (nI (spK T n k))]) (rest := []) rfl rfl rfl (s_75 (d := d)) (fun s hs => Or.inr ⟨dcN_n.mp hc, s, hs, rfl⟩)
theorem s_73a {X : Nat × (Nat → Int32)} {d : Nat} {p : Nat → Nat} {sg : Mg} {T : Nat → Int32} {n k j : Nat} (hj : j < 77) (h : CT T n k sg) (c : isW T n k (am_SL j)) : gF X (d + 2) 73 [vR 1, vS j] p sg (fun r => ∃ s, (CT T n (nxK T n k) s ∧ CN sg s) ∧ r = gR0 p s) := gF_mono (s_73 hj h) (fun r hr => hr.elim (fun g => g.2) (fun g => absurd c g.1))
theorem s_73b {X : Nat × (Nat → Int32)} {d : Nat} {p : Nat → Nat} {sg : Mg} {T : Nat → Int32} {n k j : Nat} (hj : j < 77) (h : CT T n k sg) (c : ¬ isW T n k (am_SL j)) : gF X (d + 2) 73 [vR 1, vS j] p sg (fun r => ∃ s, CF (spK T n k) sg s ∧ r = gRx p s 0) := gF_mono (s_73 hj h) (fun r hr => hr.elim (fun g => absurd g.1 c) (fun g => g.2))
/-! writes to the land -/
section
variable {l w : Nat} {sg : Mg} {S : Nat → Int32} {x : Int32}
theorem cwL.land (h : cwL l sg S) {a i j : Nat} (ha : a < l ∨ l + 18 ≤ a) (hi : ¬ noLand i) : cwL l (mu sg a j x) (upd S i x) := by
  have h := h.out (i := j) (x := x) ha
  unfold noLand at hi
  refine ⟨fun v q hv hq => ?_, fun j' k' hj' hk' => ?_, fun k' hk' => ?_, fun j' k' hj' hk' => ?_, ⟨?_, ?_, ?_, ?_, ?_⟩, fun k' j' hk' hj' => ?_⟩
  · rw [upd_ne (by omega)]; exact h.tab hv hq
  · rw [upd_ne (by omega)]; exact h.per j' hj' hk'
  · rw [upd_ne (by omega)]; exact h.mis hk'
  · rw [upd_ne (by omega)]; exact h.don j' hj' hk'
  · rw [upd_ne (by omega)]; exact h.f11
  · rw [upd_ne (by omega)]; exact h.f12
  · rw [upd_ne (by omega)]; exact h.f13
  · rw [upd_ne (by omega)]; exact h.f14
  · rw [upd_ne (by omega)]; exact h.f15
  · have e : sn (upd S i x) 14 = sn S 14 := by unfold sn; rw [upd_ne (by omega)]
    rw [e] at hk' ⊢
    rw [upd_ne (by omega)]; exact h.log j' hk' hj'
theorem cwD.wcnt (h : cwD w sg S) {k : Nat} (hk : k < 6) : cwD w (mu sg (w + 3) k x) (upd S k x) := by
  refine ⟨fun k' hk' => ?_, fun k' j' hk' hj' => ?_, fun k' j' hk' hj' => ?_, fun k' j' hk' hj' => ?_, fun k' j' hk' hj' => ?_, ?_, ?_, ?_, ?_, ?_⟩
  · by_cases e : k' = k
    · subst e; rw [mu_self, upd_self]
    · rw [mu_idx e, upd_ne e]; exact h.cnt hk'
  · rw [mu_ne (by omega), upd_ne (by omega)]; exact h.fac j' hk' hj'
  · rw [mu_ne (by omega), upd_ne (by omega)]; exact h.roa j' hk' hj'
  · rw [mu_ne (by omega), upd_ne (by omega)]; exact h.deb j' hk' hj'
  · rw [mu_ne (by omega), upd_ne (by omega)]; exact h.tas j' hk' hj'
  · rw [mu_ne (by omega), upd_ne (by omega)]; exact h.f5
  · rw [mu_ne (by omega), upd_ne (by omega)]; exact h.f6
  · rw [mu_ne (by omega), upd_ne (by omega)]; exact h.f7
  · rw [mu_ne (by omega), upd_ne (by omega)]; exact h.f8
  · rw [mu_ne (by omega), upd_ne (by omega)]; exact h.f9
theorem cwD.wfac (h : cwD w sg S) {k j : Nat} (hk : k < 8) (hj : j < 2) : cwD w (mu sg (w + 14 + k) j x) (upd S (161 + 2 * k + j) x) := by
  refine ⟨fun k' hk' => ?_, fun k' j' hk' hj' => ?_, fun k' j' hk' hj' => ?_, fun k' j' hk' hj' => ?_, fun k' j' hk' hj' => ?_, ?_, ?_, ?_, ?_, ?_⟩
  · rw [mu_ne (by omega), upd_ne (by omega)]; exact h.cnt hk'
  · by_cases e : k' = k
    · subst e
      by_cases e2 : j' = j
      · subst e2; rw [mu_self, upd_self]
      · rw [mu_idx e2, upd_ne (by omega)]; exact h.fac j' hk' hj'
    · rw [mu_ne (by omega), upd_ne (by omega)]; exact h.fac j' hk' hj'
  · rw [mu_ne (by omega), upd_ne (by omega)]; exact h.roa j' hk' hj'
  · rw [mu_ne (by omega), upd_ne (by omega)]; exact h.deb j' hk' hj'
  · rw [mu_ne (by omega), upd_ne (by omega)]; exact h.tas j' hk' hj'
  · rw [mu_ne (by omega), upd_ne (by omega)]; exact h.f5
  · rw [mu_ne (by omega), upd_ne (by omega)]; exact h.f6
  · rw [mu_ne (by omega), upd_ne (by omega)]; exact h.f7
  · rw [mu_ne (by omega), upd_ne (by omega)]; exact h.f8
  · rw [mu_ne (by omega), upd_ne (by omega)]; exact h.f9
theorem cwD.wroa (h : cwD w sg S) {k j : Nat} (hk : k < 12) (hj : j < 3) : cwD w (mu sg (w + 22 + k) j x) (upd S (177 + 3 * k + j) x) := by
  refine ⟨fun k' hk' => ?_, fun k' j' hk' hj' => ?_, fun k' j' hk' hj' => ?_, fun k' j' hk' hj' => ?_, fun k' j' hk' hj' => ?_, ?_, ?_, ?_, ?_, ?_⟩
  · rw [mu_ne (by omega), upd_ne (by omega)]; exact h.cnt hk'
  · rw [mu_ne (by omega), upd_ne (by omega)]; exact h.fac j' hk' hj'
  · by_cases e : k' = k
    · subst e
      by_cases e2 : j' = j
      · subst e2; rw [mu_self, upd_self]
      · rw [mu_idx e2, upd_ne (by omega)]; exact h.roa j' hk' hj'
    · rw [mu_ne (by omega), upd_ne (by omega)]; exact h.roa j' hk' hj'
  · rw [mu_ne (by omega), upd_ne (by omega)]; exact h.deb j' hk' hj'
  · rw [mu_ne (by omega), upd_ne (by omega)]; exact h.tas j' hk' hj'
  · rw [mu_ne (by omega), upd_ne (by omega)]; exact h.f5
  · rw [mu_ne (by omega), upd_ne (by omega)]; exact h.f6
  · rw [mu_ne (by omega), upd_ne (by omega)]; exact h.f7
  · rw [mu_ne (by omega), upd_ne (by omega)]; exact h.f8
  · rw [mu_ne (by omega), upd_ne (by omega)]; exact h.f9
theorem cwD.wdeb (h : cwD w sg S) {k j : Nat} (hk : k < 8) (hj : j < 6) : cwD w (mu sg (w + 34 + k) j x) (upd S (213 + 7 * k + j) x) := by
  refine ⟨fun k' hk' => ?_, fun k' j' hk' hj' => ?_, fun k' j' hk' hj' => ?_, fun k' j' hk' hj' => ?_, fun k' j' hk' hj' => ?_, ?_, ?_, ?_, ?_, ?_⟩
  · rw [mu_ne (by omega), upd_ne (by omega)]; exact h.cnt hk'
  · rw [mu_ne (by omega), upd_ne (by omega)]; exact h.fac j' hk' hj'
  · rw [mu_ne (by omega), upd_ne (by omega)]; exact h.roa j' hk' hj'
  · by_cases e : k' = k
    · subst e
      by_cases e2 : j' = j
      · subst e2; rw [mu_self, upd_self]
      · rw [mu_idx e2, upd_ne (by omega)]; exact h.deb j' hk' hj'
    · rw [mu_ne (by omega), upd_ne (by omega)]; exact h.deb j' hk' hj'
  · rw [mu_ne (by omega), upd_ne (by omega)]; exact h.tas j' hk' hj'
  · rw [mu_ne (by omega), upd_ne (by omega)]; exact h.f5
  · rw [mu_ne (by omega), upd_ne (by omega)]; exact h.f6
  · rw [mu_ne (by omega), upd_ne (by omega)]; exact h.f7
  · rw [mu_ne (by omega), upd_ne (by omega)]; exact h.f8
  · rw [mu_ne (by omega), upd_ne (by omega)]; exact h.f9
theorem cwD.wtas (h : cwD w sg S) {k j : Nat} (hk : k < 8) (hj : j < 3) : cwD w (mu sg (w + 42 + k) j x) (upd S (269 + 5 * k + j) x) := by
  refine ⟨fun k' hk' => ?_, fun k' j' hk' hj' => ?_, fun k' j' hk' hj' => ?_, fun k' j' hk' hj' => ?_, fun k' j' hk' hj' => ?_, ?_, ?_, ?_, ?_, ?_⟩
  · rw [mu_ne (by omega), upd_ne (by omega)]; exact h.cnt hk'
  · rw [mu_ne (by omega), upd_ne (by omega)]; exact h.fac j' hk' hj'
  · rw [mu_ne (by omega), upd_ne (by omega)]; exact h.roa j' hk' hj'
  · rw [mu_ne (by omega), upd_ne (by omega)]; exact h.deb j' hk' hj'
  · by_cases e : k' = k
    · subst e
      by_cases e2 : j' = j
      · subst e2; rw [mu_self, upd_self]
      · rw [mu_idx e2, upd_ne (by omega)]; exact h.tas j' hk' hj'
    · rw [mu_ne (by omega), upd_ne (by omega)]; exact h.tas j' hk' hj'
  · rw [mu_ne (by omega), upd_ne (by omega)]; exact h.f5
  · rw [mu_ne (by omega), upd_ne (by omega)]; exact h.f6
  · rw [mu_ne (by omega), upd_ne (by omega)]; exact h.f7
  · rw [mu_ne (by omega), upd_ne (by omega)]; exact h.f8
  · rw [mu_ne (by omega), upd_ne (by omega)]; exact h.f9
theorem cwD.wfl (h : cwD w sg S) {f i : Nat} (hf : (f = 5 ∧ i = 9) ∨ (f = 6 ∧ i = 10) ∨ (f = 7 ∧ i = 15) ∨ (f = 8 ∧ i = 6) ∨ (f = 9 ∧ i = 11)) : cwD w (mu sg (w + 2) f x) (upd S i x) := by
  refine ⟨fun k' hk' => ?_, fun k' j' hk' hj' => ?_, fun k' j' hk' hj' => ?_, fun k' j' hk' hj' => ?_, fun k' j' hk' hj' => ?_, ?_⟩
  · rw [mu_ne (by omega), upd_ne (by omega)]; exact h.cnt hk'
  · rw [mu_ne (by omega), upd_ne (by omega)]; exact h.fac j' hk' hj'
  · rw [mu_ne (by omega), upd_ne (by omega)]; exact h.roa j' hk' hj'
  · rw [mu_ne (by omega), upd_ne (by omega)]; exact h.deb j' hk' hj'
  · rw [mu_ne (by omega), upd_ne (by omega)]; exact h.tas j' hk' hj'
  · have h5 := h.f5; have h6 := h.f6; have h7 := h.f7; have h8 := h.f8; have h9 := h.f9
    rcases hf with ⟨rfl, rfl⟩ | ⟨rfl, rfl⟩ | ⟨rfl, rfl⟩ | ⟨rfl, rfl⟩ | ⟨rfl, rfl⟩ <;> simp [mu_self, mu_idx, upd, *]
end
