/-! THE LAW: barred, silent, earned (made by wip/whole/gen51.py) -/
/-- the first and the last step of a line -/
def lnA (S : Nat → Int32) (n : Nat) : Nat := if n = 0 then 0 else sn S (710 + 4 * (n - 1) + 3)
def lnB (S : Nat → Int32) (n : Nat) : Nat := sn S (710 + 4 * n + 3)
def okL (S : Nat → Int32) (n : Nat) : Prop := isN S (710 + 4 * n) 3 ∧ isN S (710 + 4 * n + 1) 100 ∧ (sn S (710 + 4 * n) ≠ 2 → sn S (710 + 4 * n + 1) = 1) ∧ S (710 + 4 * n + 2) = nI (lnA S n) ∧ S (710 + 4 * n + 3) = nI (lnB S n) ∧ lnA S n ≤ lnB S n ∧ lnB S n ≤ 400 ∧ WT S (lnA S n) (lnB S n - lnA S n)
/-- the law is well made -/
def InvA (S : Nat → Int32) : Prop := S 7 = 1 → isN S 709 13 ∧ ∀ n, n < sn S 709 → okL S n
/-- how many lines -/
def nln (S : Nat → Int32) : Nat := if S 7 = 1 then sn S 709 else 0
def hln (S sc : Nat → Int32) (n : Nat) : Bool := hld S sc (lnA S n) (lnB S n - lnA S n)
theorem lnB_mono {S : Nat → Int32} {m : Nat} (h : ∀ n, n < m → okL S n) : ∀ k n, n + k < m → lnB S n ≤ lnB S (n + k)
  | 0, _, _ => Nat.le_refl _
  | k + 1, n, hn => by
    have h1 := lnB_mono h k n (by omega)
    have h2 := (h (n + k + 1) (by omega)).2.2.2.2.2.1
    have h3 : lnA S (n + k + 1) = lnB S (n + k) := if_neg (by omega)
    rw [h3] at h2
    exact Nat.le_trans h1 h2
theorem lnB_st {S : Nat → Int32} (h : ∀ n, n < sn S 709 → okL S n) {n : Nat} (hn : n < sn S 709) : lnB S n ≤ stS S := by
  unfold stS
  rw [if_neg (by omega)]
  have := lnB_mono h (sn S 709 - 1 - n) n (by omega)
  rw [show n + (sn S 709 - 1 - n) = sn S 709 - 1 by omega] at this
  exact this
/-- the class's law and its scene -/
def LC (S sc : Nat → Int32) (sg : Mg) : Prop := S 7 = 1 ∧ InvA S ∧ cwA 200 sg S ∧ (∀ i, i < 10 → sg 201 i = sc i) ∧ ∀ i, i = 8 ∨ i = 9 → sc i = 0 ∨ sc i = 1
theorem LC.up {S sc : Nat → Int32} {sg : Mg} (h : LC S sc sg) (f : Nat → Int32) : LC S sc (va_up sg 213 f) :=
  ⟨h.1, h.2.1, h.2.2.1.eqx (m := []) (fun c c1 c2 => va_up_ne _ _ (by omega)), fun i hi => by rw [va_up_ne _ _ (by decide)]; exact h.2.2.2.1 i hi, h.2.2.2.2⟩
theorem LC.n {S sc : Nat → Int32} {sg : Mg} (h : LC S sc sg) : sg 208 6 = nI (sn S 709) ∧ sn S 709 ≤ 12 := by
  have h1 := (h.2.1 h.1).1
  refine ⟨?_, Nat.le_of_lt_succ h1.2⟩
  have h2 := h.2.2.1.1
  rw [if_pos h.1, h1.1] at h2
  exact h2
theorem LC.row {S sc : Nat → Int32} {sg : Mg} (h : LC S sc sg) {n : Nat} (hn : n < sn S 709) : sg 209 n = nI (sn S (710 + 4 * n)) ∧ sg 210 n = nI (if sn S (710 + 4 * n) = 2 then sn S (710 + 4 * n + 1) else 0) ∧ sg 211 n = nI (lnB S n) := by
  have h12 := h.n.2
  obtain ⟨a1, a2, a3⟩ := (h.2.2.1.2 h.1).1 n (by omega) hn
  have ho := (h.2.1 h.1).2 n hn
  refine ⟨a1.trans ho.1.1, a2.trans ?_, a3.trans ho.2.2.2.2.1⟩
  have e : S (710 + 4 * n) = 2 ↔ sn S (710 + 4 * n) = 2 := by
    rw [ho.1.1]
    exact nI_eq (b := 2) (by have := ho.1.2; omega) (by omega)
  by_cases h2 : sn S (710 + 4 * n) = 2
  · rw [if_pos (e.mpr h2), if_pos h2]; exact ho.2.1.1
  · rw [if_neg (fun h9 => h2 (e.mp h9)), if_neg h2]; rfl

theorem b_45_0 {X : Nat × (Nat → Int32)} {d : Nat} {p : Nat → Nat} {sg : Mg} {Q : am_R → Prop} {n : Nat} (u_n : n ≤ 11)
    (o1 : (¬ n = 0) → gW X (d) k_45 15 [some (vR 208), some (vI (nI n)), some (vR 201), some (vI (sg 211 (n - 1))), some (vI 0), some (vI (sg 211 (n - 1))), none] [] p sg Q)
    (o2 : (n = 0) → gW X (d) k_45 15 [some (vR 208), some (vI (nI n)), some (vR 201), some (vI 0), some (vI 0), some (vI 0), none] [] p sg Q) :
    gW X (d) k_45 0 [some (vR 208), some (vI (nI n)), some (vR 201), none, none, none, none] [] p sg Q := by
  refine g_pure 1 (i' := 1) (lv' := [some (vR 208), some (vI (nI n)), some (vR 201), none, none, none, none]) (st' := [vI (nI n)]) rfl ?_
  refine g_if1 (i' := 4) (P := ¬ n = 0) rfl rfl (g_neN (show nI n = nI n from (rfl : nI n = nI n)) (show 0 = nI 0 from (show (0 : Int32) = nI 0 from rfl)) (by omega) (by omega)) (fun h1 => ?_) (fun h1 => ?_)
  · refine g_pure 5 (i' := 9) (lv' := [some (vR 208), some (vI (nI n)), some (vR 201), none, none, none, none]) (st' := [vI (nI n - 1), vR 211]) rfl ?_
    refine gW_eq (lv' := [some (vR 208), some (vI (nI n)), some (vR 201), none, none, none, none]) (st' := [vI (nI (n - 1)), vR 211]) rfl (by rw [(show (nI n - 1) = nI (n - 1) from (g_sub (rfl : nI n = nI n) (show (1 : Int32) = nI 1 from rfl) (by omega)))]) rfl ?_
    refine g_ald rfl (g_A (a := 211) (kd := 1) (n := 12) rfl (by decide)) (by decide) (show nI (n - 1) = nI (n - 1) from (rfl : nI (n - 1) = nI (n - 1))) (by omega) (show _ = sg 211 (n - 1) from rfl) ?_
    refine g_pure 5 (i' := 15) (lv' := [some (vR 208), some (vI (nI n)), some (vR 201), some (vI (sg 211 (n - 1))), some (vI 0), some (vI (sg 211 (n - 1))), none]) (st' := []) rfl ?_
    exact o1 h1
  · have h1 := Classical.not_not.mp h1
    refine g_pure 7 (i' := 15) (lv' := [some (vR 208), some (vI (nI n)), some (vR 201), some (vI 0), some (vI 0), some (vI 0), none]) (st' := []) rfl ?_
    exact o2 h1

theorem s_45 {X : Nat × (Nat → Int32)} {d : Nat} {p : Nat → Nat} {sg : Mg} {S sc : Nat → Int32} (hX : LC S sc sg) {n : Nat} (hn : n < sn S 709) : gF X (d + 2) 45 [vR 208, vI (nI n), vR 201] p sg (fun r => ∃ s, (∃ f, s = va_up sg 213 f) ∧ r = gRv p s (if hln S sc n = true then 1 else 0)) := by
  have h12 := hX.n.2
  have hA := hX.2.1 hX.1
  have ho := hA.2 n hn
  obtain ⟨o1, o2, o3, o4, o5, o6, o7, o8⟩ := ho
  have hend : ∀ z, gW X (d + 1) k_45 15 [some (vR 208), some (vI (nI n)), some (vR 201), z, some (vI (nI 0)), some (vI (nI (lnA S n))), none] [] p sg (fun r => ∃ s, (∃ f, s = va_up sg 213 f) ∧ r = gRv p s (if hln S sc n = true then 1 else 0)) := by
    intro z
    refine l_45 (S := S) (sc := sc) (N := lnB S n - lnA S n) (by omega) (by omega) ?_ ?_ hX.2.2.2.1 hX.2.2.2.2 o8 (fun f => ⟨_, ⟨f, rfl⟩, rfl⟩)
    · rw [show lnA S n + (lnB S n - lnA S n) = lnB S n by omega]; exact (hX.row hn).2.2
    · intro i _ hi
      rw [show 759 + 2 * i = 758 + 2 * i + 1 by omega]
      exact (hX.2.2.1.2 hX.1).2 i (by omega) (by have := lnB_st hA.2 hn; omega)
  refine g_in (cd := k_45) (nL := 7) (rc := 5) rfl (g_A (a := 208) (kd := 0) (n := 4) rfl (by decide)) (g_c1 rfl) (b_45_0 (by omega) (fun h0 => ?_) (fun h0 => ?_))
  · have e : sg 211 (n - 1) = nI (lnA S n) := by
      rw [(hX.row (show n - 1 < sn S 709 by omega)).2.2]
      unfold lnA lnB
      rw [if_neg h0]
    rw [e]
    exact hend _
  · have h := hend (some (vI 0))
    rw [show lnA S n = 0 from if_pos h0] at h
    exact h

def anyb (P : Nat → Bool) : Nat → Bool
  | 0 => false
  | n + 1 => anyb P n || P n
theorem anyb_iff {P : Nat → Bool} : ∀ {n : Nat}, anyb P n = true ↔ ∃ k, k < n ∧ P k = true
  | 0 => by simp [anyb]
  | n + 1 => by
    rw [anyb, Bool.or_eq_true, anyb_iff]
    constructor
    · rintro (⟨k, h1, h2⟩ | h)
      · exact ⟨k, by omega, h2⟩
      · exact ⟨n, by omega, h⟩
    · rintro ⟨k, h1, h2⟩
      rcases Nat.lt_succ_iff_lt_or_eq.mp h1 with h | h
      · exact Or.inl ⟨k, h, h2⟩
      · rw [h] at h2; exact Or.inr h2
/-- a line of that kind holds -/
def lnP (S sc : Nat → Int32) (kd n : Nat) : Bool := decide (sn S (710 + 4 * n) = kd) && hln S sc n
def brd (S sc : Nat → Int32) (kd : Nat) : Bool := anyb (lnP S sc kd) (nln S)
/-- what all such lines earn -/
def gsm (S sc : Nat → Int32) (kd : Nat) : Nat → Nat
  | 0 => 0
  | n + 1 => gsm S sc kd n + (if lnP S sc kd n = true then sn S (710 + 4 * n + 1) else 0)
theorem gsm_le {S sc : Nat → Int32} {kd m : Nat} (h : ∀ n, n < m → okL S n) : ∀ n, n ≤ m → gsm S sc kd n ≤ 99 * n
  | 0, _ => Nat.le_refl _
  | n + 1, hn => by
    have h1 := gsm_le (sc := sc) (kd := kd) h n (by omega)
    have h2 := (h n (by omega)).2.1.2
    simp only [gsm]
    split <;> omega
theorem nln1 {S : Nat → Int32} (h : S 7 = 1) : nln S = sn S 709 := if_pos h
theorem nln0 {S : Nat → Int32} (h : ¬ S 7 = 1) : nln S = 0 := if_neg h
theorem ki_eq {S : Nat → Int32} {n kd : Nat} (h : okL S n) (hk : kd ≤ 2) : nI (sn S (710 + 4 * n)) = nI kd ↔ sn S (710 + 4 * n) = kd := nI_eq (by have := h.1.2; omega) (by omega)

theorem b_44_0 {X : Nat × (Nat → Int32)} {d : Nat} {p : Nat → Nat} {sg : Mg} {Q : am_R → Prop} {k : Nat} (u_k : k ≤ 2)
    (o1 : gW X (d) k_44 2 [some (vR 208), some (vI (nI k)), some (vR 201), some (vI 0)] [] p sg Q) :
    gW X (d) k_44 0 [some (vR 208), some (vI (nI k)), some (vR 201), none] [] p sg Q := by
  refine g_pure 2 (i' := 2) (lv' := [some (vR 208), some (vI (nI k)), some (vR 201), some (vI 0)]) (st' := []) rfl ?_
  exact o1

theorem b_44_2 {X : Nat × (Nat → Int32)} {d : Nat} {p : Nat → Nat} {sg : Mg} {Q : am_R → Prop} {n : Nat} (u_n : n ≤ 12) (kn_208_6 : sg 208 6 = nI n) {S sc : Nat → Int32} (hX : LC S sc sg) (h7 : n = sn S 709) {k : Nat} {j : Nat} (u_k : k ≤ 2) (u_j : j ≤ 12)
    (o1 : (n ≤ j) → Q (gRv p sg 0))
    (o2 : (¬ (n ≤ j)) → (¬ nI (sn S (710 + 4 * j)) = nI k) → gW X (d + 2) k_44 2 [some (vR 208), some (vI (nI k)), some (vR 201), some (vI (nI (j + 1)))] [] p sg Q)
    (o3 : (¬ (n ≤ j)) → (nI (sn S (710 + 4 * j)) = nI k) → ∀ s3 : Mg, (∃ f, s3 = va_up sg 213 f) → (¬ (hln S sc j = true)) → gW X (d + 2) k_44 2 [some (vR 208), some (vI (nI k)), some (vR 201), some (vI (nI (j + 1)))] [] p s3 Q)
    (o4 : (¬ (n ≤ j)) → (nI (sn S (710 + 4 * j)) = nI k) → ∀ s3 : Mg, (∃ f, s3 = va_up sg 213 f) → ((hln S sc j = true)) → Q (gRv p s3 1)) :
    gW X (d + 2) k_44 2 [some (vR 208), some (vI (nI k)), some (vR 201), some (vI (nI j))] [] p sg Q := by
  refine g_pure 2 (i' := 4) (lv' := [some (vR 208), some (vI (nI k)), some (vR 201), some (vI (nI j))]) (st' := [vR 208, vI (nI j)]) rfl ?_
  refine g_getI rfl (g_A (a := 208) (kd := 0) (n := 4) rfl (by decide)) (show _ = nI n from kn_208_6) ?_
  refine g_if2 (i' := 21) (P := n ≤ j) rfl rfl (g_geN (show nI j = nI j from (rfl : nI j = nI j)) (show nI n = nI n from (rfl : nI n = nI n)) (by omega) (by omega)) (fun h1 => ?_) (fun h1 => ?_)
  · refine g_pure 1 (i' := 22) (lv' := [some (vR 208), some (vI (nI k)), some (vR 201), some (vI (nI j))]) (st' := [vI 0]) rfl ?_
    refine g_bret rfl g_nar0 ?_
    exact o1 h1
  · refine g_pure 3 (i' := 9) (lv' := [some (vR 208), some (vI (nI k)), some (vR 201), some (vI (nI j))]) (st' := [vI (nI j), vR 209]) rfl ?_
    refine g_ald rfl (g_A (a := 209) (kd := 1) (n := 12) rfl (by decide)) (by decide) (show nI j = nI j from (rfl : nI j = nI j)) (by omega) (show _ = nI (sn S (710 + 4 * j)) from (hX.row (by omega)).1) ?_
    refine g_pure 1 (i' := 11) (lv' := [some (vR 208), some (vI (nI k)), some (vR 201), some (vI (nI j))]) (st' := [vI (nI k), vI (nI (sn S (710 + 4 * j)))]) rfl ?_
    refine g_if2 (i' := 19) (P := ¬ nI (sn S (710 + 4 * j)) = nI k) rfl rfl Iff.rfl (fun h2 => ?_) (fun h2 => ?_)
    · refine g_pure 2 (i' := 2) (lv' := [some (vR 208), some (vI (nI k)), some (vR 201), some (vI (nI j + 1))]) (st' := []) rfl ?_
      refine gW_eq (lv' := [some (vR 208), some (vI (nI k)), some (vR 201), some (vI (nI (j + 1)))]) (st' := []) (by rw [(show (nI j + 1) = nI (j + 1) from ((g_add (rfl : nI j = nI j) (show (1 : Int32) = nI 1 from rfl))).trans (congrArg nI (by omega)))]) rfl rfl ?_
      exact o2 h1 h2
    · have h2 := Classical.not_not.mp h2
      refine g_pure 3 (i' := 15) (lv' := [some (vR 208), some (vI (nI k)), some (vR 201), some (vI (nI j))]) (st' := [vR 201, vI (nI j), vR 208]) rfl ?_
      refine g_cV1E rfl (args := [vR 208, vI (nI j), vR 201]) (rest := []) rfl rfl rfl (s_45 (d := d) hX (by omega)) (fun s3 es3 => ?_)
      refine g_if1 (i' := 19) (P := ¬ (hln S sc j = true)) rfl rfl g_eqB (fun h4 => ?_) (fun h4 => ?_)
      · refine g_pure 2 (i' := 2) (lv' := [some (vR 208), some (vI (nI k)), some (vR 201), some (vI (nI j + 1))]) (st' := []) rfl ?_
        refine gW_eq (lv' := [some (vR 208), some (vI (nI k)), some (vR 201), some (vI (nI (j + 1)))]) (st' := []) (by rw [(show (nI j + 1) = nI (j + 1) from ((g_add (rfl : nI j = nI j) (show (1 : Int32) = nI 1 from rfl))).trans (congrArg nI (by omega)))]) rfl rfl ?_
        exact o3 h1 h2 s3 es3 h4
      · have h4 := Classical.not_not.mp h4
        refine g_pure 1 (i' := 18) (lv' := [some (vR 208), some (vI (nI k)), some (vR 201), some (vI (nI j))]) (st' := [vI 1]) rfl ?_
        refine g_bret rfl g_nar1 ?_
        exact o4 h1 h2 s3 es3 h4

theorem b_44_x {X : Nat × (Nat → Int32)} {d : Nat} {p : Nat → Nat} {sg : Mg} {Q : am_R → Prop} {k : Nat} (u_k : k ≤ 2) (hm : sg 208 6 ≤ 0)
    (o1 : Q (gRv p sg 0)) :
    gW X (d + 2) k_44 2 [some (vR 208), some (vI (nI k)), some (vR 201), some (vI 0)] [] p sg Q := by
  refine g_pure 3 (i' := 5) (lv' := [some (vR 208), some (vI (nI k)), some (vR 201), some (vI 0)]) (st' := [vI (sg 208 6), vI 0]) rfl ?_
  refine g_if2 (i' := 21) (P := sg 208 6 ≤ 0) rfl rfl Iff.rfl (fun _ => ?_) (fun h1 => absurd hm h1)
  refine g_pure 1 (i' := 22) (lv' := [some (vR 208), some (vI (nI k)), some (vR 201), some (vI 0)]) (st' := [vI 0]) rfl ?_
  refine g_bret rfl g_nar0 ?_
  exact o1

theorem b_47_0 {X : Nat × (Nat → Int32)} {d : Nat} {p : Nat → Nat} {sg : Mg} {Q : am_R → Prop} {k : Nat} (u_k : k ≤ 2)
    (o1 : gW X (d) k_47 2 [some (vR 208), some (vI (nI k)), some (vI 0)] [] p sg Q) :
    gW X (d) k_47 0 [some (vR 208), some (vI (nI k)), none] [] p sg Q := by
  refine g_pure 2 (i' := 2) (lv' := [some (vR 208), some (vI (nI k)), some (vI 0)]) (st' := []) rfl ?_
  exact o1

theorem b_47_2 {X : Nat × (Nat → Int32)} {d : Nat} {p : Nat → Nat} {sg : Mg} {Q : am_R → Prop} {n : Nat} (u_n : n ≤ 12) (kn_208_6 : sg 208 6 = nI n) {k : Nat} {j : Nat} (u_k : k ≤ 2) (u_j : j ≤ 12)
    (o1 : (n ≤ j) → Q (gRv p sg 0))
    (o2 : (¬ (n ≤ j)) → (¬ sg 209 j = nI k) → gW X (d) k_47 2 [some (vR 208), some (vI (nI k)), some (vI (nI (j + 1)))] [] p sg Q)
    (o3 : (¬ (n ≤ j)) → (sg 209 j = nI k) → Q (gRv p sg 1)) :
    gW X (d) k_47 2 [some (vR 208), some (vI (nI k)), some (vI (nI j))] [] p sg Q := by
  refine g_pure 2 (i' := 4) (lv' := [some (vR 208), some (vI (nI k)), some (vI (nI j))]) (st' := [vR 208, vI (nI j)]) rfl ?_
  refine g_getI rfl (g_A (a := 208) (kd := 0) (n := 4) rfl (by decide)) (show _ = nI n from kn_208_6) ?_
  refine g_if2 (i' := 16) (P := n ≤ j) rfl rfl (g_geN (show nI j = nI j from (rfl : nI j = nI j)) (show nI n = nI n from (rfl : nI n = nI n)) (by omega) (by omega)) (fun h1 => ?_) (fun h1 => ?_)
  · refine g_pure 1 (i' := 17) (lv' := [some (vR 208), some (vI (nI k)), some (vI (nI j))]) (st' := [vI 0]) rfl ?_
    refine g_bret rfl g_nar0 ?_
    exact o1 h1
  · refine g_pure 3 (i' := 9) (lv' := [some (vR 208), some (vI (nI k)), some (vI (nI j))]) (st' := [vI (nI j), vR 209]) rfl ?_
    refine g_ald rfl (g_A (a := 209) (kd := 1) (n := 12) rfl (by decide)) (by decide) (show nI j = nI j from (rfl : nI j = nI j)) (by omega) (show _ = sg 209 j from rfl) ?_
    refine g_pure 1 (i' := 11) (lv' := [some (vR 208), some (vI (nI k)), some (vI (nI j))]) (st' := [vI (nI k), vI (sg 209 j)]) rfl ?_
    refine g_if2 (i' := 14) (P := ¬ sg 209 j = nI k) rfl rfl Iff.rfl (fun h2 => ?_) (fun h2 => ?_)
    · refine g_pure 2 (i' := 2) (lv' := [some (vR 208), some (vI (nI k)), some (vI (nI j + 1))]) (st' := []) rfl ?_
      refine gW_eq (lv' := [some (vR 208), some (vI (nI k)), some (vI (nI (j + 1)))]) (st' := []) (by rw [(show (nI j + 1) = nI (j + 1) from ((g_add (rfl : nI j = nI j) (show (1 : Int32) = nI 1 from rfl))).trans (congrArg nI (by omega)))]) rfl rfl ?_
      exact o2 h1 h2
    · have h2 := Classical.not_not.mp h2
      refine g_pure 1 (i' := 13) (lv' := [some (vR 208), some (vI (nI k)), some (vI (nI j))]) (st' := [vI 1]) rfl ?_
      refine g_bret rfl g_nar1 ?_
      exact o3 h1 h2

theorem b_47_x {X : Nat × (Nat → Int32)} {d : Nat} {p : Nat → Nat} {sg : Mg} {Q : am_R → Prop} {k : Nat} (u_k : k ≤ 2) (hm : sg 208 6 ≤ 0)
    (o1 : Q (gRv p sg 0)) :
    gW X (d) k_47 2 [some (vR 208), some (vI (nI k)), some (vI 0)] [] p sg Q := by
  refine g_pure 3 (i' := 5) (lv' := [some (vR 208), some (vI (nI k)), some (vI 0)]) (st' := [vI (sg 208 6), vI 0]) rfl ?_
  refine g_if2 (i' := 16) (P := sg 208 6 ≤ 0) rfl rfl Iff.rfl (fun _ => ?_) (fun h1 => absurd hm h1)
  refine g_pure 1 (i' := 17) (lv' := [some (vR 208), some (vI (nI k)), some (vI 0)]) (st' := [vI 0]) rfl ?_
  refine g_bret rfl g_nar0 ?_
  exact o1

theorem b_48_0 {X : Nat × (Nat → Int32)} {d : Nat} {p : Nat → Nat} {sg : Mg} {Q : am_R → Prop}
    (o1 : gW X (d) k_48 4 [some (vR 208), some (vR 201), some (vI 0), some (vI 0)] [] p sg Q) :
    gW X (d) k_48 0 [some (vR 208), some (vR 201), none, none] [] p sg Q := by
  refine g_pure 4 (i' := 4) (lv' := [some (vR 208), some (vR 201), some (vI 0), some (vI 0)]) (st' := []) rfl ?_
  exact o1

theorem b_48_4 {X : Nat × (Nat → Int32)} {d : Nat} {p : Nat → Nat} {sg : Mg} {Q : am_R → Prop} {n : Nat} (u_n : n ≤ 12) (kn_208_6 : sg 208 6 = nI n) {S sc : Nat → Int32} (hX : LC S sc sg) (h7 : n = sn S 709) {c : Nat} {j : Nat} (u_c : c ≤ 1200) (u_j : j ≤ 12)
    (o1 : (n ≤ j) → Q (gRv p sg (nI c)))
    (o2 : (¬ (n ≤ j)) → (¬ nI (sn S (710 + 4 * j)) = 2) → gW X (d + 2) k_48 4 [some (vR 208), some (vR 201), some (vI (nI c)), some (vI (nI (j + 1)))] [] p sg Q)
    (o3 : (¬ (n ≤ j)) → (nI (sn S (710 + 4 * j)) = 2) → ∀ s3 : Mg, (∃ f, s3 = va_up sg 213 f) → (¬ (hln S sc j = true)) → gW X (d + 2) k_48 4 [some (vR 208), some (vR 201), some (vI (nI c)), some (vI (nI (j + 1)))] [] p s3 Q)
    (o4 : (¬ (n ≤ j)) → (nI (sn S (710 + 4 * j)) = 2) → ∀ s3 : Mg, (∃ f, s3 = va_up sg 213 f) → ((hln S sc j = true)) → gW X (d + 2) k_48 4 [some (vR 208), some (vR 201), some (vI (nI c + s3 210 j)), some (vI (nI (j + 1)))] [] p s3 Q) :
    gW X (d + 2) k_48 4 [some (vR 208), some (vR 201), some (vI (nI c)), some (vI (nI j))] [] p sg Q := by
  refine g_pure 2 (i' := 6) (lv' := [some (vR 208), some (vR 201), some (vI (nI c)), some (vI (nI j))]) (st' := [vR 208, vI (nI j)]) rfl ?_
  refine g_getI rfl (g_A (a := 208) (kd := 0) (n := 4) rfl (by decide)) (show _ = nI n from kn_208_6) ?_
  refine g_if2 (i' := 28) (P := n ≤ j) rfl rfl (g_geN (show nI j = nI j from (rfl : nI j = nI j)) (show nI n = nI n from (rfl : nI n = nI n)) (by omega) (by omega)) (fun h1 => ?_) (fun h1 => ?_)
  · refine g_pure 1 (i' := 29) (lv' := [some (vR 208), some (vR 201), some (vI (nI c)), some (vI (nI j))]) (st' := [vI (nI c)]) rfl ?_
    refine g_iret rfl ?_
    exact o1 h1
  · refine g_pure 3 (i' := 11) (lv' := [some (vR 208), some (vR 201), some (vI (nI c)), some (vI (nI j))]) (st' := [vI (nI j), vR 209]) rfl ?_
    refine g_ald rfl (g_A (a := 209) (kd := 1) (n := 12) rfl (by decide)) (by decide) (show nI j = nI j from (rfl : nI j = nI j)) (by omega) (show _ = nI (sn S (710 + 4 * j)) from (hX.row (by omega)).1) ?_
    refine g_pure 1 (i' := 13) (lv' := [some (vR 208), some (vR 201), some (vI (nI c)), some (vI (nI j))]) (st' := [vI 2, vI (nI (sn S (710 + 4 * j)))]) rfl ?_
    refine g_if2 (i' := 26) (P := ¬ nI (sn S (710 + 4 * j)) = 2) rfl rfl Iff.rfl (fun h2 => ?_) (fun h2 => ?_)
    · refine g_pure 2 (i' := 4) (lv' := [some (vR 208), some (vR 201), some (vI (nI c)), some (vI (nI j + 1))]) (st' := []) rfl ?_
      refine gW_eq (lv' := [some (vR 208), some (vR 201), some (vI (nI c)), some (vI (nI (j + 1)))]) (st' := []) (by rw [(show (nI j + 1) = nI (j + 1) from ((g_add (rfl : nI j = nI j) (show (1 : Int32) = nI 1 from rfl))).trans (congrArg nI (by omega)))]) rfl rfl ?_
      exact o2 h1 h2
    · have h2 := Classical.not_not.mp h2
      refine g_pure 3 (i' := 17) (lv' := [some (vR 208), some (vR 201), some (vI (nI c)), some (vI (nI j))]) (st' := [vR 201, vI (nI j), vR 208]) rfl ?_
      refine g_cV1E rfl (args := [vR 208, vI (nI j), vR 201]) (rest := []) rfl rfl rfl (s_45 (d := d) hX (by omega)) (fun s3 es3 => ?_)
      refine g_if1 (i' := 26) (P := ¬ (hln S sc j = true)) rfl rfl g_eqB (fun h4 => ?_) (fun h4 => ?_)
      · refine g_pure 2 (i' := 4) (lv' := [some (vR 208), some (vR 201), some (vI (nI c)), some (vI (nI j + 1))]) (st' := []) rfl ?_
        refine gW_eq (lv' := [some (vR 208), some (vR 201), some (vI (nI c)), some (vI (nI (j + 1)))]) (st' := []) (by rw [(show (nI j + 1) = nI (j + 1) from ((g_add (rfl : nI j = nI j) (show (1 : Int32) = nI 1 from rfl))).trans (congrArg nI (by omega)))]) rfl rfl ?_
        exact o3 h1 h2 s3 es3 h4
      · have h4 := Classical.not_not.mp h4
        refine g_pure 4 (i' := 23) (lv' := [some (vR 208), some (vR 201), some (vI (nI c)), some (vI (nI j))]) (st' := [vI (nI j), vR 210, vI (nI c)]) rfl ?_
        refine g_ald rfl (g_A (a := 210) (kd := 1) (n := 12) rfl (by decide)) (by decide) (show nI j = nI j from (rfl : nI j = nI j)) (by omega) (show _ = s3 210 j from rfl) ?_
        refine g_pure 4 (i' := 4) (lv' := [some (vR 208), some (vR 201), some (vI (nI c + s3 210 j)), some (vI (nI j + 1))]) (st' := []) rfl ?_
        refine gW_eq (lv' := [some (vR 208), some (vR 201), some (vI (nI c + s3 210 j)), some (vI (nI (j + 1)))]) (st' := []) (by rw [(show (nI j + 1) = nI (j + 1) from ((g_add (rfl : nI j = nI j) (show (1 : Int32) = nI 1 from rfl))).trans (congrArg nI (by omega)))]) rfl rfl ?_
        exact o4 h1 h2 s3 es3 h4

theorem b_48_x {X : Nat × (Nat → Int32)} {d : Nat} {p : Nat → Nat} {sg : Mg} {Q : am_R → Prop} (hm : sg 208 6 ≤ 0)
    (o1 : Q (gRv p sg 0)) :
    gW X (d + 2) k_48 4 [some (vR 208), some (vR 201), some (vI 0), some (vI 0)] [] p sg Q := by
  refine g_pure 3 (i' := 7) (lv' := [some (vR 208), some (vR 201), some (vI 0), some (vI 0)]) (st' := [vI (sg 208 6), vI 0]) rfl ?_
  refine g_if2 (i' := 28) (P := sg 208 6 ≤ 0) rfl rfl Iff.rfl (fun _ => ?_) (fun h1 => absurd hm h1)
  refine g_pure 1 (i' := 29) (lv' := [some (vR 208), some (vR 201), some (vI 0), some (vI 0)]) (st' := [vI 0]) rfl ?_
  refine g_iret rfl ?_
  exact o1

theorem s_44 {X : Nat × (Nat → Int32)} {d : Nat} {p : Nat → Nat} {sg : Mg} {S sc : Nat → Int32} (hX : LC S sc sg) {k : Nat} (hk : k ≤ 2) : gF X (d + 3) 44 [vR 208, vI (nI k), vR 201] p sg (fun r => ∃ s, (∃ f, s = va_up sg 213 f) ∧ r = gRv p s (if brd S sc k = true then 1 else 0)) := by
  have hA := (hX.2.1 hX.1).2
  have e1 := nln1 hX.1
  refine g_in (cd := k_44) (nL := 4) (rc := 5) rfl (g_A (a := 208) (kd := 0) (n := 4) rfl (by decide)) (g_c1 rfl) (b_44_0 hk ?_)
  have key := g_upI (P := fun j => ∀ f, gW X (d + 2) k_44 2 [some (vR 208), some (vI (nI k)), some (vR 201), some (vI (nI j))] [] p (va_up sg 213 f) (fun r => ∃ s, (∃ f, s = va_up sg 213 f) ∧ r = gRv p s (if brd S sc k = true then 1 else 0))) (I := fun j => ∀ i, i < j → lnP S sc k i = false) (n := sn S 709) (a := 0) (by omega) none_below ?_ ?_
  · have h := key (sg 213)
    rw [va_up_same] at h
    exact h
  · intro j _ hj hi ih f
    have h12 := hX.n.2
    refine b_44_2 (n := sn S 709) (S := S) (sc := sc) h12 ((hX.up f).n.1) (hX.up f) rfl hk (by omega) (fun h => by omega) (fun _ h => ?_) (fun _ h s3 hs h2 => ?_) (fun _ h s3 hs h2 => ?_)
    · refine ih (not_below hi ?_) f
      unfold lnP
      rw [decide_eq_false (fun h9 => h ((ki_eq (hA j hj) hk).mpr h9))]
      rfl
    · obtain ⟨f2, rfl⟩ := hs
      rw [va_up2]
      refine ih (not_below hi ?_) f2
      unfold lnP
      rw [show hln S sc j = false by simpa using h2, Bool.and_false]
    · obtain ⟨f2, rfl⟩ := hs
      rw [va_up2]
      refine ⟨_, ⟨f2, rfl⟩, ?_⟩
      rw [if_pos]
      unfold brd
      refine anyb_iff.mpr ⟨j, by omega, ?_⟩
      unfold lnP
      rw [decide_eq_true ((ki_eq (hA j hj) hk).mp h), h2]
      rfl
  · intro hi f
    have h12 := hX.n.2
    refine b_44_2 (n := sn S 709) (S := S) (sc := sc) h12 ((hX.up f).n.1) (hX.up f) rfl hk (by omega) (fun _ => ?_) (fun h => by omega) (fun h => by omega) (fun h => by omega)
    refine ⟨_, ⟨f, rfl⟩, ?_⟩
    rw [if_neg]
    intro h
    obtain ⟨j, h1, h2⟩ := anyb_iff.mp h
    rw [hi j (by omega)] at h2
    cases h2
theorem s_44x {X : Nat × (Nat → Int32)} {d : Nat} {p : Nat → Nat} {sg : Mg} {S sc : Nat → Int32} (h7 : ¬ S 7 = 1) (hA : cwA 200 sg S) {k : Nat} (hk : k ≤ 2) : gF X (d + 3) 44 [vR 208, vI (nI k), vR 201] p sg (fun r => ∃ s, (∃ f, s = va_up sg 213 f) ∧ r = gRv p s (if brd S sc k = true then 1 else 0)) := by
  have hm : sg 208 6 = -1 := hA.1.trans (if_neg h7)
  refine g_in (cd := k_44) (nL := 4) (rc := 5) rfl (g_A (a := 208) (kd := 0) (n := 4) rfl (by decide)) (g_c1 rfl) (b_44_0 hk (b_44_x hk (by rw [hm]; decide) ?_))
  refine ⟨sg, ⟨sg 213, va_up_same.symm⟩, ?_⟩
  rw [if_neg (by unfold brd; rw [nln0 h7]; exact Bool.false_ne_true)]

theorem b_114_0 {X : Nat × (Nat → Int32)} {d : Nat} {p : Nat → Nat} {sg : Mg} {Q : am_R → Prop} {B : Nat} {S : Nat → Int32} (hI : Inv B S) (hL : cwL 250 sg S) (hD : cwD 200 sg S) {k : Nat} {v : Nat} {t : Nat} (u_k : k ≤ 7) (u_v : v ≤ 5) (u_t : t ≤ 200600) (q1 : k < sn S 1) (q2 : v < sn S 0)
    (o1 : ∀ s2 : Mg, s2 = mu sg 201 0 (nI k) → ∀ s3 : Mg, s3 = mu s2 201 1 (nI v) → ∀ s4 : Mg, s4 = mu s3 201 2 (S (17 + 16 * v + (t % sn S 9))) → ∀ s5 : Mg, s5 = mu s4 201 3 (nI (t % sn S 9)) → ∀ s6 : Mg, s6 = mu s5 201 4 (nI (t / (sn S 9))) → ∀ s7 : Mg, s7 = mu s6 201 5 (bcI (S (113 + 6 * k + 5))) → ∀ s8 : Mg, s8 = mu s7 201 6 (bcI (S (113 + 6 * k + 4))) → ∀ s9 : Mg, s9 = mu s8 201 7 (S (113 + 6 * k + 3)) → ∀ s10 : Mg, s10 = mu s9 201 8 ((S (113 + 6 * k + 4) >>> (S (17 + 16 * v + (t % sn S 9)) &&& 31)) &&& 1) → ∀ s11 : Mg, s11 = mu s10 201 9 ((S 10 >>> (S (17 + 16 * v + (t % sn S 9)) &&& 31)) &&& 1) → Q (gR0 p s11)) :
    gW X (d + 3) k_114 0 [some (vR 200), some (vI (nI k)), some (vI (nI v)), some (vI (nI t)), none, none] [] p sg Q := by
  have b0 := hI.b0; have b1 := hI.b1; have b2 := hI.b2; have b3 := hI.b3; have b4 := hI.b4; have b5 := hI.b5; have b6 := hI.b6; have b7 := hI.b7; have b8 := hI.b8; have b9 := hI.b9; have b14 := hI.b14
  refine g_pure 3 (i' := 3) (lv' := [some (vR 200), some (vI (nI k)), some (vI (nI v)), some (vI (nI t)), none, none]) (st' := [vI (nI t), vR 202]) rfl ?_
  refine g_cV1 rfl (args := [vR 202, vI (nI t)]) (rest := []) rfl rfl rfl (s_37n (d := d + 1) hI hL hD (by omega)) ?_
  have t1 := Nat.mod_lt (t) (y := sn S 9) (by omega)
  refine g_pure 5 (i' := 9) (lv' := [some (vR 200), some (vI (nI k)), some (vI (nI v)), some (vI (nI t)), some (vI (nI (t % sn S 9))), none]) (st' := [vI (nI v), vR 251]) rfl ?_
  refine g_aald rfl (Or.inl rfl) (g_A (a := 251) (kd := 5) (n := 6) rfl (by decide)) (by decide) (show nI v = nI v from (rfl : nI v = nI v)) (by omega) (gR_251 (by omega)) ?_
  refine g_pure 1 (i' := 11) (lv' := [some (vR 200), some (vI (nI k)), some (vI (nI v)), some (vI (nI t)), some (vI (nI (t % sn S 9))), none]) (st' := [vI (nI (t % sn S 9)), vR (262 + v)]) rfl ?_
  refine g_ald rfl (gA_251 (by omega)) (by decide) (show nI (t % sn S 9) = nI (t % sn S 9) from (rfl : nI (t % sn S 9) = nI (t % sn S 9))) (by omega) (show _ = S (17 + 16 * v + (t % sn S 9)) from (hL.tab (by omega) (by omega))) ?_
  refine g_pure 5 (i' := 17) (lv' := [some (vR 200), some (vI (nI k)), some (vI (nI v)), some (vI (nI t)), some (vI (nI (t % sn S 9))), some (vI (S (17 + 16 * v + (t % sn S 9))))]) (st' := [vI (nI k), vI 0, vR 201]) rfl ?_
  refine g_ast rfl (g_A (a := 201) (kd := 1) (n := 10) rfl (by decide)) (by decide) (show 0 = nI 0 from (show (0 : Int32) = nI 0 from rfl)) (by decide) ?_
  refine g_setv (fun s2 es2 => ?_)
  have hLs2 : cwL 250 s2 S := by rw [es2]; exact hL.out (by decide)
  have hDs2 : cwD 200 s2 S := by rw [es2]; exact hD.out (by decide)
  refine g_pure 4 (i' := 22) (lv' := [some (vR 200), some (vI (nI k)), some (vI (nI v)), some (vI (nI t)), some (vI (nI (t % sn S 9))), some (vI (S (17 + 16 * v + (t % sn S 9))))]) (st' := [vI (nI v), vI 1, vR 201]) rfl ?_
  refine g_ast rfl (g_A (a := 201) (kd := 1) (n := 10) rfl (by decide)) (by decide) (show 1 = nI 1 from (show (1 : Int32) = nI 1 from rfl)) (by decide) ?_
  refine g_setv (fun s3 es3 => ?_)
  have hLs3 : cwL 250 s3 S := by rw [es3]; exact hLs2.out (by decide)
  have hDs3 : cwD 200 s3 S := by rw [es3]; exact hDs2.out (by decide)
  refine g_pure 4 (i' := 27) (lv' := [some (vR 200), some (vI (nI k)), some (vI (nI v)), some (vI (nI t)), some (vI (nI (t % sn S 9))), some (vI (S (17 + 16 * v + (t % sn S 9))))]) (st' := [vI (S (17 + 16 * v + (t % sn S 9))), vI 2, vR 201]) rfl ?_
  refine g_ast rfl (g_A (a := 201) (kd := 1) (n := 10) rfl (by decide)) (by decide) (show 2 = nI 2 from (show (2 : Int32) = nI 2 from rfl)) (by decide) ?_
  refine g_setv (fun s4 es4 => ?_)
  have hLs4 : cwL 250 s4 S := by rw [es4]; exact hLs3.out (by decide)
  have hDs4 : cwD 200 s4 S := by rw [es4]; exact hDs3.out (by decide)
  refine g_pure 4 (i' := 32) (lv' := [some (vR 200), some (vI (nI k)), some (vI (nI v)), some (vI (nI t)), some (vI (nI (t % sn S 9))), some (vI (S (17 + 16 * v + (t % sn S 9))))]) (st' := [vI (nI (t % sn S 9)), vI 3, vR 201]) rfl ?_
  refine g_ast rfl (g_A (a := 201) (kd := 1) (n := 10) rfl (by decide)) (by decide) (show 3 = nI 3 from (show (3 : Int32) = nI 3 from rfl)) (by decide) ?_
  refine g_setv (fun s5 es5 => ?_)
  have hLs5 : cwL 250 s5 S := by rw [es5]; exact hLs4.out (by decide)
  have hDs5 : cwD 200 s5 S := by rw [es5]; exact hDs4.out (by decide)
  refine g_pure 6 (i' := 39) (lv' := [some (vR 200), some (vI (nI k)), some (vI (nI v)), some (vI (nI t)), some (vI (nI (t % sn S 9))), some (vI (S (17 + 16 * v + (t % sn S 9))))]) (st' := [vI (nI t), vR 202, vI 4, vR 201]) rfl ?_
  refine g_cV1 rfl (args := [vR 202, vI (nI t)]) (rest := [vI 4, vR 201]) rfl rfl rfl (s_38 (d := d + 1) hI hLs5 hDs5 (by omega)) ?_
  refine g_ast rfl (g_A (a := 201) (kd := 1) (n := 10) rfl (by decide)) (by decide) (show 4 = nI 4 from (show (4 : Int32) = nI 4 from rfl)) (by decide) ?_
  refine g_setv (fun s6 es6 => ?_)
  have hLs6 : cwL 250 s6 S := by rw [es6]; exact hLs5.out (by decide)
  have hDs6 : cwD 200 s6 S := by rw [es6]; exact hDs5.out (by decide)
  refine g_pure 7 (i' := 48) (lv' := [some (vR 200), some (vI (nI k)), some (vI (nI v)), some (vI (nI t)), some (vI (nI (t % sn S 9))), some (vI (S (17 + 16 * v + (t % sn S 9))))]) (st' := [vI (nI k), vR 257, vI 5, vR 201]) rfl ?_
  refine g_ald rfl (g_A (a := 257) (kd := 1) (n := 8) rfl (by decide)) (by decide) (show nI k = nI k from (rfl : nI k = nI k)) (by omega) (show _ = S (113 + 6 * k + 5) from (hLs6.per 5 (by decide) (by omega))) ?_
  refine g_cS1 rfl (args := [vI (S (113 + 6 * k + 5))]) (rest := [vI 5, vR 201]) rfl rfl rfl (s_317 (d := d + 2) ) ?_
  refine g_ast rfl (g_A (a := 201) (kd := 1) (n := 10) rfl (by decide)) (by decide) (show 5 = nI 5 from (show (5 : Int32) = nI 5 from rfl)) (by decide) ?_
  refine g_setv (fun s7 es7 => ?_)
  have hLs7 : cwL 250 s7 S := by rw [es7]; exact hLs6.out (by decide)
  have hDs7 : cwD 200 s7 S := by rw [es7]; exact hDs6.out (by decide)
  refine g_pure 7 (i' := 58) (lv' := [some (vR 200), some (vI (nI k)), some (vI (nI v)), some (vI (nI t)), some (vI (nI (t % sn S 9))), some (vI (S (17 + 16 * v + (t % sn S 9))))]) (st' := [vI (nI k), vR 256, vI 6, vR 201]) rfl ?_
  refine g_ald rfl (g_A (a := 256) (kd := 1) (n := 8) rfl (by decide)) (by decide) (show nI k = nI k from (rfl : nI k = nI k)) (by omega) (show _ = S (113 + 6 * k + 4) from (hLs7.per 4 (by decide) (by omega))) ?_
  refine g_cS1 rfl (args := [vI (S (113 + 6 * k + 4))]) (rest := [vI 6, vR 201]) rfl rfl rfl (s_317 (d := d + 2) ) ?_
  refine g_ast rfl (g_A (a := 201) (kd := 1) (n := 10) rfl (by decide)) (by decide) (show 6 = nI 6 from (show (6 : Int32) = nI 6 from rfl)) (by decide) ?_
  refine g_setv (fun s8 es8 => ?_)
  have hLs8 : cwL 250 s8 S := by rw [es8]; exact hLs7.out (by decide)
  have hDs8 : cwD 200 s8 S := by rw [es8]; exact hDs7.out (by decide)
  refine g_pure 7 (i' := 68) (lv' := [some (vR 200), some (vI (nI k)), some (vI (nI v)), some (vI (nI t)), some (vI (nI (t % sn S 9))), some (vI (S (17 + 16 * v + (t % sn S 9))))]) (st' := [vI (nI k), vR 255, vI 7, vR 201]) rfl ?_
  refine g_ald rfl (g_A (a := 255) (kd := 1) (n := 8) rfl (by decide)) (by decide) (show nI k = nI k from (rfl : nI k = nI k)) (by omega) (show _ = S (113 + 6 * k + 3) from (hLs8.per 3 (by decide) (by omega))) ?_
  refine g_ast rfl (g_A (a := 201) (kd := 1) (n := 10) rfl (by decide)) (by decide) (show 7 = nI 7 from (show (7 : Int32) = nI 7 from rfl)) (by decide) ?_
  refine g_setv (fun s9 es9 => ?_)
  have hLs9 : cwL 250 s9 S := by rw [es9]; exact hLs8.out (by decide)
  have hDs9 : cwD 200 s9 S := by rw [es9]; exact hDs8.out (by decide)
  refine g_pure 7 (i' := 77) (lv' := [some (vR 200), some (vI (nI k)), some (vI (nI v)), some (vI (nI t)), some (vI (nI (t % sn S 9))), some (vI (S (17 + 16 * v + (t % sn S 9))))]) (st' := [vI (nI k), vR 256, vI 8, vR 201]) rfl ?_
  refine g_ald rfl (g_A (a := 256) (kd := 1) (n := 8) rfl (by decide)) (by decide) (show nI k = nI k from (rfl : nI k = nI k)) (by omega) (show _ = S (113 + 6 * k + 4) from (hLs9.per 4 (by decide) (by omega))) ?_
  refine g_pure 4 (i' := 82) (lv' := [some (vR 200), some (vI (nI k)), some (vI (nI v)), some (vI (nI t)), some (vI (nI (t % sn S 9))), some (vI (S (17 + 16 * v + (t % sn S 9))))]) (st' := [vI ((S (113 + 6 * k + 4) >>> (S (17 + 16 * v + (t % sn S 9)) &&& 31)) &&& 1), vI 8, vR 201]) rfl ?_
  refine g_ast rfl (g_A (a := 201) (kd := 1) (n := 10) rfl (by decide)) (by decide) (show 8 = nI 8 from (show (8 : Int32) = nI 8 from rfl)) (by decide) ?_
  refine g_setv (fun s10 es10 => ?_)
  have hLs10 : cwL 250 s10 S := by rw [es10]; exact hLs9.out (by decide)
  have hDs10 : cwD 200 s10 S := by rw [es10]; exact hDs9.out (by decide)
  refine g_pure 5 (i' := 88) (lv' := [some (vR 200), some (vI (nI k)), some (vI (nI v)), some (vI (nI t)), some (vI (nI (t % sn S 9))), some (vI (S (17 + 16 * v + (t % sn S 9))))]) (st' := [vR 202, vI 9, vR 201]) rfl ?_
  refine g_getI rfl (g_A (a := 202) (kd := 0) (n := 3) rfl (by decide)) (show _ = S 10 from hDs10.f6) ?_
  refine g_pure 4 (i' := 93) (lv' := [some (vR 200), some (vI (nI k)), some (vI (nI v)), some (vI (nI t)), some (vI (nI (t % sn S 9))), some (vI (S (17 + 16 * v + (t % sn S 9))))]) (st' := [vI ((S 10 >>> (S (17 + 16 * v + (t % sn S 9)) &&& 31)) &&& 1), vI 9, vR 201]) rfl ?_
  refine g_ast rfl (g_A (a := 201) (kd := 1) (n := 10) rfl (by decide)) (by decide) (show 9 = nI 9 from (show (9 : Int32) = nI 9 from rfl)) (by decide) ?_
  refine g_setv (fun s11 es11 => ?_)
  have hLs11 : cwL 250 s11 S := by rw [es11]; exact hLs10.out (by decide)
  have hDs11 : cwD 200 s11 S := by rw [es11]; exact hDs10.out (by decide)
  refine g_vret rfl ?_
  exact o1 s2 es2 s3 es3 s4 es4 s5 es5 s6 es6 s7 es7 s8 es8 s9 es9 s10 es10 s11 es11

def hsk (S : Nat → Int32) (kd : Nat) : Bool := anyb (fun n => decide (sn S (710 + 4 * n) = kd)) (nln S)
theorem hsk_brd {S sc : Nat → Int32} {kd : Nat} (h : hsk S kd = false) : brd S sc kd = false := by
  cases e : brd S sc kd
  · rfl
  · obtain ⟨j, h1, h2⟩ := anyb_iff.mp e
    unfold lnP at h2
    rw [Bool.and_eq_true] at h2
    have : hsk S kd = true := anyb_iff.mpr ⟨j, h1, h2.1⟩
    rw [h] at this
    cases this
theorem hsk_gsm {S sc : Nat → Int32} {kd : Nat} (h : hsk S kd = false) : ∀ n, n ≤ nln S → gsm S sc kd n = 0
  | 0, _ => rfl
  | n + 1, hn => by
    simp only [gsm]
    rw [hsk_gsm h n (by omega), if_neg]
    intro h2
    unfold lnP at h2
    rw [Bool.and_eq_true] at h2
    have : hsk S kd = true := anyb_iff.mpr ⟨n, by omega, h2.1⟩
    rw [h] at this
    cases this
/-- the law in the class, made or none -/
def LW (S : Nat → Int32) (sg : Mg) : Prop := InvA S ∧ cwA 200 sg S
theorem s_47 {X : Nat × (Nat → Int32)} {d : Nat} {p : Nat → Nat} {sg : Mg} {S : Nat → Int32} (hW : LW S sg) {k : Nat} (hk : k ≤ 2) : gF X (d + 1) 47 [vR 208, vI (nI k)] p sg (fun r => r = gRv p sg (if hsk S k = true then 1 else 0)) := by
  refine g_in (cd := k_47) (nL := 3) (rc := 5) rfl (g_A (a := 208) (kd := 0) (n := 4) rfl (by decide)) (g_c1 rfl) (b_47_0 hk ?_)
  by_cases h7 : S 7 = 1
  · have hX : LC S (sg 201) sg ∨ True := Or.inr trivial
    have hA := (hW.1 h7).2
    have h13 := (hW.1 h7).1
    have hn : sg 208 6 = nI (sn S 709) := by
      have h2 := hW.2.1
      rw [if_pos h7, h13.1] at h2
      exact h2
    have e1 := nln1 h7
    have h12 := h13.2
    have row : ∀ j, j < sn S 709 → sg 209 j = nI (sn S (710 + 4 * j)) := fun j hj => ((hW.2.2 h7).1 j (by omega) hj).1.trans (hA j hj).1.1
    refine g_upI (P := fun j => gW X d k_47 2 [some (vR 208), some (vI (nI k)), some (vI (nI j))] [] p sg _) (I := fun j => ∀ i, i < j → (fun n => decide (sn S (710 + 4 * n) = k)) i = false) (n := sn S 709) (a := 0) (by omega) none_below (fun j _ hj hi ih => ?_) (fun hi => ?_)
    · refine b_47_2 (n := sn S 709) (by omega) hn hk (by omega) (fun h => by omega) (fun _ h => ?_) (fun _ h => ?_) <;> rw [row j hj] at h
      · exact ih (not_below hi (decide_eq_false (fun h9 => h ((ki_eq (hA j hj) hk).mpr h9))))
      · rw [if_pos (show hsk S k = true from anyb_iff.mpr ⟨j, by omega, decide_eq_true ((ki_eq (hA j hj) hk).mp h)⟩)]
    · refine b_47_2 (n := sn S 709) (by omega) hn hk (by omega) (fun _ => ?_) (fun h => by omega) (fun h => by omega)
      rw [if_neg]
      intro h
      obtain ⟨j, h1, h2⟩ := anyb_iff.mp h
      have h3 : decide (sn S (710 + 4 * j) = k) = false := hi j (by omega)
      rw [h3] at h2
      cases h2
  · have hm : sg 208 6 = -1 := hW.2.1.trans (if_neg h7)
    refine b_47_x hk (by rw [hm]; decide) ?_
    rw [if_neg (by unfold hsk; rw [nln0 h7]; exact Bool.false_ne_true)]
theorem s_48 {X : Nat × (Nat → Int32)} {d : Nat} {p : Nat → Nat} {sg : Mg} {S sc : Nat → Int32} (hX : LC S sc sg) : gF X (d + 3) 48 [vR 208, vR 201] p sg (fun r => ∃ s, (∃ f, s = va_up sg 213 f) ∧ r = gRv p s (nI (gsm S sc 2 (nln S)))) := by
  have hA := (hX.2.1 hX.1).2
  have e1 := nln1 hX.1
  have h12 := hX.n.2
  refine g_in (cd := k_48) (nL := 4) (rc := 5) rfl (g_A (a := 208) (kd := 0) (n := 4) rfl (by decide)) (g_c1 rfl) (b_48_0 ?_)
  have key := g_upI (P := fun j => ∀ f, gW X (d + 2) k_48 4 [some (vR 208), some (vR 201), some (vI (nI (gsm S sc 2 j))), some (vI (nI j))] [] p (va_up sg 213 f) (fun r => ∃ s, (∃ f, s = va_up sg 213 f) ∧ r = gRv p s (nI (gsm S sc 2 (nln S))))) (I := fun _ => True) (n := sn S 709) (a := 0) (by omega) trivial ?_ ?_
  · have h := key (sg 213)
    rw [va_up_same] at h
    exact h
  · intro j _ hj _ ih f
    have hle := gsm_le (sc := sc) (kd := 2) hA j (by omega)
    have ih := ih trivial
    simp only [gsm] at ih
    have k2 : nI (sn S (710 + 4 * j)) = 2 ↔ sn S (710 + 4 * j) = 2 := ki_eq (kd := 2) (hA j hj) (by decide)
    refine b_48_4 (n := sn S 709) (S := S) (sc := sc) h12 ((hX.up f).n.1) (hX.up f) rfl (by omega) (by omega) (fun h => by omega) (fun _ h => ?_) (fun _ h s3 hs h2 => ?_) (fun _ h s3 hs h2 => ?_)
    · have h9 : ¬ lnP S sc 2 j = true := by
        unfold lnP
        rw [decide_eq_false (fun h9 => h (k2.mpr h9))]
        exact Bool.false_ne_true
      have := ih f
      rw [if_neg h9, Nat.add_zero] at this
      exact this
    · obtain ⟨f2, rfl⟩ := hs
      have h9 : ¬ lnP S sc 2 j = true := by
        unfold lnP
        rw [show hln S sc j = false by simpa using h2, Bool.and_false]
        exact Bool.false_ne_true
      have := ih f2
      rw [if_neg h9, Nat.add_zero] at this
      rw [va_up2]
      exact this
    · obtain ⟨f2, rfl⟩ := hs
      have h9 : lnP S sc 2 j = true := by
        unfold lnP
        rw [decide_eq_true (k2.mp h), h2]
        rfl
      have := ih f2
      rw [if_pos h9] at this
      rw [va_up2]
      rw [((hX.up f2).row hj).2.1, if_pos (k2.mp h), nI_add]
      exact this
  · intro _ f
    have hle := gsm_le (sc := sc) (kd := 2) hA (sn S 709) (Nat.le_refl _)
    refine b_48_4 (n := sn S 709) (S := S) (sc := sc) h12 ((hX.up f).n.1) (hX.up f) rfl (by omega) (by omega) (fun _ => ?_) (fun h => by omega) (fun h => by omega) (fun h => by omega)
    refine ⟨_, ⟨f, rfl⟩, ?_⟩
    rw [e1]
theorem scf_bit (S : Nat → Int32) (k v t : Nat) : ∀ i, i = 8 ∨ i = 9 → scf S k v t i = 0 ∨ scf S k v t i = 1 := by
  intro i hi
  rcases hi with rfl | rfl
  · exact i32_bit _
  · exact i32_bit _
theorem s_114 {X : Nat × (Nat → Int32)} {d : Nat} {p : Nat → Nat} {sg : Mg} {B : Nat} {S : Nat → Int32} (hI : Inv B S) (hL : cwL 250 sg S) (hD : cwD 200 sg S) {k v t : Nat} (hk : k < sn S 1) (hv : v < sn S 0) (ht : t ≤ 200600) : gF X (d + 4) 114 [vR 200, vI (nI k), vI (nI v), vI (nI t)] p sg (fun r => ∃ s, ((∀ c, c ≠ 201 → s c = sg c) ∧ ∀ i, i < 10 → s 201 i = scf S k v t i) ∧ r = gR0 p s) := by
  have b0 := hI.b0; have b1 := hI.b1
  refine g_in (cd := k_114) (nL := 6) (rc := 11) rfl (g_A (a := 200) (kd := 0) (n := 10) rfl (by decide)) (g_c1 rfl) (b_114_0 hI hL hD (by omega) (by omega) ht hk hv ?_)
  intro s2 e2 s3 e3 s4 e4 s5 e5 s6 e6 s7 e7 s8 e8 s9 e9 s10 e10 s11 e11
  refine ⟨s11, ⟨fun c hc => ?_, fun i hi => ?_⟩, rfl⟩
  · rw [e11, mu_ne hc, e10, mu_ne hc, e9, mu_ne hc, e8, mu_ne hc, e7, mu_ne hc, e6, mu_ne hc, e5, mu_ne hc, e4, mu_ne hc, e3, mu_ne hc, e2, mu_ne hc]
  · rcases (show i = 0 ∨ i = 1 ∨ i = 2 ∨ i = 3 ∨ i = 4 ∨ i = 5 ∨ i = 6 ∨ i = 7 ∨ i = 8 ∨ i = 9 by omega) with rfl | rfl | rfl | rfl | rfl | rfl | rfl | rfl | rfl | rfl
    · rw [e11, mu_idx (by decide), e10, mu_idx (by decide), e9, mu_idx (by decide), e8, mu_idx (by decide), e7, mu_idx (by decide), e6, mu_idx (by decide), e5, mu_idx (by decide), e4, mu_idx (by decide), e3, mu_idx (by decide), e2, mu_self]; rfl
    · rw [e11, mu_idx (by decide), e10, mu_idx (by decide), e9, mu_idx (by decide), e8, mu_idx (by decide), e7, mu_idx (by decide), e6, mu_idx (by decide), e5, mu_idx (by decide), e4, mu_idx (by decide), e3, mu_self]; rfl
    · rw [e11, mu_idx (by decide), e10, mu_idx (by decide), e9, mu_idx (by decide), e8, mu_idx (by decide), e7, mu_idx (by decide), e6, mu_idx (by decide), e5, mu_idx (by decide), e4, mu_self]; rfl
    · rw [e11, mu_idx (by decide), e10, mu_idx (by decide), e9, mu_idx (by decide), e8, mu_idx (by decide), e7, mu_idx (by decide), e6, mu_idx (by decide), e5, mu_self]; rfl
    · rw [e11, mu_idx (by decide), e10, mu_idx (by decide), e9, mu_idx (by decide), e8, mu_idx (by decide), e7, mu_idx (by decide), e6, mu_self]; rfl
    · rw [e11, mu_idx (by decide), e10, mu_idx (by decide), e9, mu_idx (by decide), e8, mu_idx (by decide), e7, mu_self]; rfl
    · rw [e11, mu_idx (by decide), e10, mu_idx (by decide), e9, mu_idx (by decide), e8, mu_self]; rfl
    · rw [e11, mu_idx (by decide), e10, mu_idx (by decide), e9, mu_self]; rfl
    · rw [e11, mu_idx (by decide), e10, mu_self]; rfl
    · rw [e11, mu_self]; rfl

theorem LW.lc {S : Nat → Int32} {sg s : Mg} {k v t : Nat} (hW : LW S sg) (h7 : S 7 = 1) (h1 : ∀ c, c ≠ 201 → s c = sg c) (h2 : ∀ i, i < 10 → s 201 i = scf S k v t i) : LC S (scf S k v t) s :=
  ⟨h7, hW.1, hW.2.eqx (m := []) (fun c c1 c2 => h1 c (by omega)), h2, scf_bit S k v t⟩
theorem LW.eqc {S : Nat → Int32} {sg s : Mg} (hW : LW S sg) (h1 : ∀ c, 208 ≤ c → c < 213 → s c = sg c) : LW S s := ⟨hW.1, hW.2.eqx (m := []) (fun c c1 c2 => h1 c c1 c2)⟩
theorem s_113 {X : Nat × (Nat → Int32)} {d : Nat} {p : Nat → Nat} {sg : Mg} {B : Nat} {S : Nat → Int32} (hI : Inv B S) (hL : cwL 250 sg S) (hD : cwD 200 sg S) (hW : LW S sg) {k v t : Nat} (hk : k < sn S 1) (hv : v < sn S 0) (ht : t ≤ 200600) : gF X (d + 5) 113 [vR 200, vI (nI k), vI (nI v), vI (nI t)] p sg (fun r => ∃ s, (∀ c, c ≠ 201 → c ≠ 213 → s c = sg c) ∧ r = gRv p s (if brd S (scf S k v t) 0 = true then 1 else 0)) := by
  refine g_in (cd := k_113) (nL := 4) (rc := 11) rfl (g_A (a := 200) (kd := 0) (n := 10) rfl (by decide)) (g_c1 rfl) ?_
  show gW X (d + 4) k_113 0 [some (vR 200), some (vI (nI k)), some (vI (nI v)), some (vI (nI t))] [] p sg _
  refine g_pure 4 (i' := 4) (lv' := [some (vR 200), some (vI (nI k)), some (vI (nI v)), some (vI (nI t))]) (st' := [vI (nI t), vI (nI v), vI (nI k), vR 200]) rfl ?_
  refine g_cV0E rfl (args := [vR 200, vI (nI k), vI (nI v), vI (nI t)]) (rest := []) rfl rfl rfl (s_114 (d := d) hI hL hD hk hv ht) (fun s1 h1 => ?_)
  refine g_pure 5 (i' := 10) (lv' := [some (vR 200), some (vI (nI k)), some (vI (nI v)), some (vI (nI t))]) (st' := [vR 201, vI (nI 0), vR 208]) rfl ?_
  have hF : gF X (d + 4) 44 [vR 208, vI (nI 0), vR 201] p s1 (fun r => ∃ s, (∃ f, s = va_up s1 213 f) ∧ r = gRv p s (if brd S (scf S k v t) 0 = true then 1 else 0)) := by
    by_cases h7 : S 7 = 1
    · exact s_44 (d := d + 1) (hW.lc h7 h1.1 h1.2) (by omega)
    · exact s_44x (d := d + 1) h7 (hW.2.eqx (m := []) (fun c c1 c2 => h1.1 c (by omega))) (by omega)
  refine g_cV1E rfl (args := [vR 208, vI (nI 0), vR 201]) (rest := []) rfl rfl rfl hF (fun s2 h2 => ?_)
  refine g_bret rfl g_narB ?_
  obtain ⟨f, rfl⟩ := h2
  exact ⟨_, fun c c1 c2 => by rw [va_up_ne _ _ c2]; exact h1.1 c c1, rfl⟩
theorem s_115 {X : Nat × (Nat → Int32)} {d : Nat} {p : Nat → Nat} {sg : Mg} {B : Nat} {S : Nat → Int32} (hI : Inv B S) (hL : cwL 250 sg S) (hD : cwD 200 sg S) (hW : LW S sg) {k v t : Nat} (hk : k < sn S 1) (hv : v < sn S 0) (ht : t ≤ 200600) : gF X (d + 5) 115 [vR 200, vI (nI k), vI (nI v), vI (nI t)] p sg (fun r => ∃ s, (∀ c, c ≠ 201 → c ≠ 213 → s c = sg c) ∧ r = gRv p s (if brd S (scf S k v t) 1 = true then 1 else 0)) := by
  refine g_in (cd := k_115) (nL := 4) (rc := 11) rfl (g_A (a := 200) (kd := 0) (n := 10) rfl (by decide)) (g_c1 rfl) ?_
  show gW X (d + 4) k_115 0 [some (vR 200), some (vI (nI k)), some (vI (nI v)), some (vI (nI t))] [] p sg _
  refine g_pure 3 (i' := 3) (lv' := [some (vR 200), some (vI (nI k)), some (vI (nI v)), some (vI (nI t))]) (st' := [vI (nI 1), vR 208]) rfl ?_
  refine g_cV1 rfl (args := [vR 208, vI (nI 1)]) (rest := []) rfl rfl rfl (s_47 (d := d + 3) hW (by omega)) ?_
  refine g_if1 (i' := 7) (P := hsk S 1 = true) rfl rfl g_neB (fun hs => ?_) (fun hs => ?_)
  · refine g_pure 4 (i' := 11) (lv' := [some (vR 200), some (vI (nI k)), some (vI (nI v)), some (vI (nI t))]) (st' := [vI (nI t), vI (nI v), vI (nI k), vR 200]) rfl ?_
    refine g_cV0E rfl (args := [vR 200, vI (nI k), vI (nI v), vI (nI t)]) (rest := []) rfl rfl rfl (s_114 (d := d) hI hL hD hk hv ht) (fun s1 h1 => ?_)
    refine g_pure 5 (i' := 17) (lv' := [some (vR 200), some (vI (nI k)), some (vI (nI v)), some (vI (nI t))]) (st' := [vR 201, vI (nI 1), vR 208]) rfl ?_
    have hF : gF X (d + 4) 44 [vR 208, vI (nI 1), vR 201] p s1 (fun r => ∃ s, (∃ f, s = va_up s1 213 f) ∧ r = gRv p s (if brd S (scf S k v t) 1 = true then 1 else 0)) := by
      by_cases h7 : S 7 = 1
      · exact s_44 (d := d + 1) (hW.lc h7 h1.1 h1.2) (by omega)
      · exact s_44x (d := d + 1) h7 (hW.2.eqx (m := []) (fun c c1 c2 => h1.1 c (by omega))) (by omega)
    refine g_cV1E rfl (args := [vR 208, vI (nI 1), vR 201]) (rest := []) rfl rfl rfl hF (fun s2 h2 => ?_)
    refine g_bret rfl g_narB ?_
    obtain ⟨f, rfl⟩ := h2
    exact ⟨_, fun c c1 c2 => by rw [va_up_ne _ _ c2]; exact h1.1 c c1, rfl⟩
  · refine g_pure 1 (i' := 6) (lv' := [some (vR 200), some (vI (nI k)), some (vI (nI v)), some (vI (nI t))]) (st' := [vI 0]) rfl ?_
    refine g_bret rfl g_nar0 ?_
    rw [hsk_brd (sc := scf S k v t) (show hsk S 1 = false by simpa using hs)]
    exact ⟨sg, fun _ _ _ => rfl, rfl⟩
theorem s_116 {X : Nat × (Nat → Int32)} {d : Nat} {p : Nat → Nat} {sg : Mg} {B : Nat} {S : Nat → Int32} (hI : Inv B S) (hL : cwL 250 sg S) (hD : cwD 200 sg S) (hW : LW S sg) {k v t : Nat} (hk : k < sn S 1) (hv : v < sn S 0) (ht : t ≤ 200600) : gF X (d + 5) 116 [vR 200, vI (nI k), vI (nI v), vI (nI t)] p sg (fun r => ∃ s, (∀ c, c ≠ 201 → c ≠ 213 → s c = sg c) ∧ r = gRv p s (nI (gsm S (scf S k v t) 2 (nln S)))) := by
  refine g_in (cd := k_116) (nL := 4) (rc := 11) rfl (g_A (a := 200) (kd := 0) (n := 10) rfl (by decide)) (g_c1 rfl) ?_
  show gW X (d + 4) k_116 0 [some (vR 200), some (vI (nI k)), some (vI (nI v)), some (vI (nI t))] [] p sg _
  refine g_pure 3 (i' := 3) (lv' := [some (vR 200), some (vI (nI k)), some (vI (nI v)), some (vI (nI t))]) (st' := [vI (nI 2), vR 208]) rfl ?_
  refine g_cV1 rfl (args := [vR 208, vI (nI 2)]) (rest := []) rfl rfl rfl (s_47 (d := d + 3) hW (by omega)) ?_
  refine g_if1 (i' := 7) (P := hsk S 2 = true) rfl rfl g_neB (fun hs => ?_) (fun hs => ?_)
  · have h7 : S 7 = 1 := Classical.byContradiction (fun h7 => by unfold hsk at hs; rw [nln0 h7] at hs; exact absurd hs Bool.false_ne_true)
    refine g_pure 4 (i' := 11) (lv' := [some (vR 200), some (vI (nI k)), some (vI (nI v)), some (vI (nI t))]) (st' := [vI (nI t), vI (nI v), vI (nI k), vR 200]) rfl ?_
    refine g_cV0E rfl (args := [vR 200, vI (nI k), vI (nI v), vI (nI t)]) (rest := []) rfl rfl rfl (s_114 (d := d) hI hL hD hk hv ht) (fun s1 h1 => ?_)
    refine g_pure 4 (i' := 16) (lv' := [some (vR 200), some (vI (nI k)), some (vI (nI v)), some (vI (nI t))]) (st' := [vR 201, vR 208]) rfl ?_
    refine g_cV1E rfl (args := [vR 208, vR 201]) (rest := []) rfl rfl rfl (s_48 (d := d + 1) (hW.lc h7 h1.1 h1.2)) (fun s2 h2 => ?_)
    refine g_iret rfl ?_
    obtain ⟨f, rfl⟩ := h2
    exact ⟨_, fun c c1 c2 => by rw [va_up_ne _ _ c2]; exact h1.1 c c1, rfl⟩
  · refine g_pure 1 (i' := 6) (lv' := [some (vR 200), some (vI (nI k)), some (vI (nI v)), some (vI (nI t))]) (st' := [vI 0]) rfl ?_
    refine g_iret rfl ?_
    rw [hsk_gsm (sc := scf S k v t) (show hsk S 2 = false by simpa using hs) (nln S) (Nat.le_refl _)]
    exact ⟨sg, fun _ _ _ => rfl, rfl⟩
