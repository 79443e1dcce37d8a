/-! THE LAW depends on its own numbers alone -/
def lawP (S : Nat → Int32) (i : Nat) : Int32 := if i = 7 ∨ 709 ≤ i then S i else 0
section LP
variable {S S' sc : Nat → Int32}
theorem lawP_at {i : Nat} (h : i = 7 ∨ 709 ≤ i) : lawP S i = S i := if_pos h
theorem sn_law {i : Nat} (h : 709 ≤ i) : sn (lawP S) i = sn S i := sn_eq (lawP_at (Or.inr h))
theorem isN_law {i n : Nat} (h : 709 ≤ i) : isN (lawP S) i n ↔ isN S i n := isN_eq (lawP_at (Or.inr h))
theorem tyM_law (i : Nat) (c : Nat × (Nat → Bool)) : tyM (lawP S) i c = tyM S i c := by
  unfold tyM
  rw [sn_law (by omega)]
theorem tyS_law (a : Nat) : ∀ n, tyS (lawP S) a n = tyS S a n
  | 0 => rfl
  | n + 1 => by
    show tyM (lawP S) (a + n) (tyS (lawP S) a n) = tyM S (a + n) (tyS S a n)
    rw [tyM_law, tyS_law a n]
theorem okM_law (i : Nat) (c : Nat × (Nat → Bool)) : okM (lawP S) i c ↔ okM S i c := by
  unfold okM
  rw [sn_law (by omega), isN_law (by omega), isN_law (by omega)]
theorem WT_law (a n : Nat) : WT (lawP S) a n ↔ WT S a n := by
  unfold WT
  rw [tyS_law]
  constructor
  · rintro ⟨h1, h2⟩
    exact ⟨fun k hk => by have := h1 k hk; rw [okM_law, tyS_law] at this; exact this, h2⟩
  · rintro ⟨h1, h2⟩
    exact ⟨fun k hk => by rw [okM_law, tyS_law]; exact h1 k hk, h2⟩
theorem lnA_law (n : Nat) : lnA (lawP S) n = lnA S n := by
  unfold lnA
  rw [sn_law (by omega)]
theorem lnB_law (n : Nat) : lnB (lawP S) n = lnB S n := sn_law (by omega)
theorem okL_law (n : Nat) : okL (lawP S) n ↔ okL S n := by
  unfold okL
  rw [isN_law (by omega), isN_law (by omega), sn_law (by omega), sn_law (by omega), lawP_at (by omega), lawP_at (by omega), lnA_law, lnB_law, WT_law]
theorem InvA_law : InvA (lawP S) ↔ InvA S := by
  unfold InvA
  rw [lawP_at (by omega), isN_law (by omega), sn_law (by omega)]
  constructor
  · intro h h7
    exact ⟨(h h7).1, fun n hn => (okL_law n).mp ((h h7).2 n hn)⟩
  · intro h h7
    exact ⟨(h h7).1, fun n hn => (okL_law n).mpr ((h h7).2 n hn)⟩
theorem stS_law : stS (lawP S) = stS S := by
  unfold stS
  rw [sn_law (by omega), sn_law (by omega)]
theorem cwA_law {w : Nat} {sg : Mg} : cwA w sg (lawP S) ↔ cwA w sg S := by
  unfold cwA
  rw [lawP_at (by omega), lawP_at (by omega), sn_law (by omega), stS_law]
  constructor
  · rintro ⟨h1, h2⟩
    refine ⟨h1, fun h7 => ⟨fun n h12 hn => ?_, fun i hi hs => ?_⟩⟩
    · have := (h2 h7).1 n h12 hn
      rw [lawP_at (by omega), lawP_at (by omega), lawP_at (by omega)] at this
      exact this
    · have := (h2 h7).2 i hi hs
      rw [lawP_at (by omega), lawP_at (by omega)] at this
      exact this
  · rintro ⟨h1, h2⟩
    refine ⟨h1, fun h7 => ⟨fun n h12 hn => ?_, fun i hi hs => ?_⟩⟩
    · have := (h2 h7).1 n h12 hn
      rw [lawP_at (by omega), lawP_at (by omega), lawP_at (by omega)]
      exact this
    · have := (h2 h7).2 i hi hs
      rw [lawP_at (by omega), lawP_at (by omega)]
      exact this
theorem lawP_eq (h : ∀ i, i = 7 ∨ 709 ≤ i → S' i = S i) : lawP S' = lawP S := by
  funext i
  unfold lawP
  by_cases hi : i = 7 ∨ 709 ≤ i
  · rw [if_pos hi, if_pos hi, h i hi]
  · rw [if_neg hi, if_neg hi]
theorem InvA.ext (hA : InvA S) (h : ∀ i, i = 7 ∨ 709 ≤ i → S' i = S i) : InvA S' := by
  rw [← InvA_law, lawP_eq h, InvA_law]
  exact hA
theorem cwA.ext {w : Nat} {sg : Mg} (hA : cwA w sg S) (h : ∀ i, i = 7 ∨ 709 ≤ i → S' i = S i) : cwA w sg S' := by
  rw [← cwA_law, lawP_eq h, cwA_law]
  exact hA
theorem LW.ext {sg : Mg} (hW : LW S sg) (h : ∀ i, i = 7 ∨ 709 ≤ i → S' i = S i) : LW S' sg := ⟨hW.1.ext h, hW.2.ext h⟩
end LP
theorem LW.df {S : Nat → Int32} {sg s : Mg} (hW : LW S sg) (h : DF sg s) : LW S s := hW.eqc (fun c c1 c2 => h c (by omega) (by omega) (by omega) (by omega) (by omega))
