/-! TEXTS: what holds afterwards; BACK once more (made by wip/whole/gen89zzs.py) -/
section
variable {S S' : Nat → Int32}
theorem tyS_dr (e : ∀ i, i < 1558 → S' i = S i) (a : Nat) : ∀ k, a + k ≤ 400 → tyS S' a k = tyS S a k
  | 0, _ => rfl
  | k + 1, h => by
    show tyM S' (a + k) (tyS S' a k) = tyM S (a + k) (tyS S a k)
    rw [tyS_dr e a k (by omega)]
    unfold tyM
    rw [show sn S' (758 + 2 * (a + k)) = sn S (758 + 2 * (a + k)) from sn_eq (e _ (by omega))]
theorem okM_dr (e : ∀ i, i < 1558 → S' i = S i) {i : Nat} {c : Nat × (Nat → Bool)} (hi : i < 400) (h : okM S i c) : okM S' i c := by
  unfold okM isN sn at h ⊢
  rw [e (758 + 2 * i) (by omega), e (759 + 2 * i) (by omega)]
  exact h
theorem WT.dr (e : ∀ i, i < 1558 → S' i = S i) {a n : Nat} (ha : a + n ≤ 400) (h : WT S a n) : WT S' a n := by
  refine ⟨fun k hk => ?_, ?_⟩
  · rw [tyS_dr e a k (by omega)]
    exact okM_dr e (by omega) (h.1 k hk)
  · rw [tyS_dr e a n ha]
    exact h.2
theorem InvA.dr (hA : InvA S) (e : ∀ i, i < 1558 → S' i = S i) : InvA S' := fun h7 => by
  rw [e 7 (by decide)] at h7
  obtain ⟨h9, hL⟩ := hA h7
  have e9 : sn S' 709 = sn S 709 := sn_eq (e 709 (by decide))
  refine ⟨?_, fun n hn => ?_⟩
  · unfold isN at h9 ⊢
    rw [e9, e 709 (by decide)]
    exact h9
  · rw [e9] at hn
    have hn12 := h9.2
    have h := hL n hn
    have eA : lnA S' n = lnA S n := by
      unfold lnA
      by_cases c : n = 0
      · rw [if_pos c, if_pos c]
      · rw [if_neg c, if_neg c]; exact sn_eq (e _ (by omega))
    have eB : lnB S' n = lnB S n := sn_eq (e _ (by omega))
    unfold okL isN at h ⊢
    rw [eA, eB, e (710 + 4 * n) (by omega), e (710 + 4 * n + 1) (by omega), e (710 + 4 * n + 2) (by omega), e (710 + 4 * n + 3) (by omega), show sn S' (710 + 4 * n) = sn S (710 + 4 * n) from sn_eq (e _ (by omega)), show sn S' (710 + 4 * n + 1) = sn S (710 + 4 * n + 1) from sn_eq (e _ (by omega))]
    exact ⟨h.1, h.2.1, h.2.2.1, h.2.2.2.1, h.2.2.2.2.1, h.2.2.2.2.2.1, h.2.2.2.2.2.2.1, WT.dr e (by omega) h.2.2.2.2.2.2.2⟩
theorem Str.dr {B : Nat} (hI : Inv B S) (h : Str S) (e : ∀ i, i < 309 → i ≠ 7 → S' i = S i) : Str S' := fun k hk hw => by
  have e1 : sn S' 1 = sn S 1 := sn_eq (e 1 (by decide) (by decide))
  have b1 := hI.b1
  rw [e1] at hk
  rw [e _ (by omega) (by omega)] at hw
  rw [show sn S' 8 = sn S 8 from sn_eq (e 8 (by decide) (by decide)), show sn S' (113 + 6 * k + 2) = sn S (113 + 6 * k + 2) from sn_eq (e _ (by omega) (by omega))]
  exact h k hk hw
theorem Str.dr6 (h : Str S) (e : ∀ i, i ≠ 6 → S' i = S i) : Str S' := fun k hk hw => by
  rw [show sn S' 1 = sn S 1 from sn_eq (e 1 (by decide))] at hk
  rw [e _ (by omega)] at hw
  rw [show sn S' 8 = sn S 8 from sn_eq (e 8 (by decide)), show sn S' (113 + 6 * k + 2) = sn S (113 + 6 * k + 2) from sn_eq (e _ (by omega))]
  exact h k hk hw
end
/-- the numbers from 1558 on are whatever -/
theorem RI.dr {B : Nat} {A : AS} (hI : RI B A) {S' : Nat → Int32} (e : ∀ i, i < 1558 → S' i = A.S i) : RI B (S', A.n, acD A S', A.2.2.2) := by
  obtain ⟨a1, a2, a3, a4, a5, a6, a7, a8⟩ := hI
  refine ⟨a1.ext (fun i hi => e i (by unfold freeI at hi; omega)), Str.dr a1 a2 (fun i hi _ => e i (by omega)), a3.dr e, a4, fun i hi => ?_, a6, a7, a8⟩
  have h := a5 i hi
  have eD : ∀ j, j < 1558 → acD A S' i j = A.ac i j := fun j hj => if_pos hj
  refine ⟨h.1.ext (fun j hj => eD j (by unfold freeI at hj; omega)), Str.dr h.1 h.2.1 (fun j hj _ => eD j (by omega)), fun j hj => ?_⟩
  show (if j < 1558 then A.ac i j else S' j) = S' j
  by_cases c : j < 1558
  · rw [if_pos c, e j c]; exact h.2.2 j hj
  · rw [if_neg c]
theorem RI.couFI {B : Nat} {A : AS} (hI : RI B A) : RI B (couF A) := by
  unfold couF
  cases prAll A.T A.tl A.S with
  | inl f => exact RI.usq hI
  | inr q => exact RI.usq hI
theorem RI.couSI {B : Nat} {A : AS} (hI : RI B A) (h : (couR A).1 = 0) : RI B (couS A) := by
  unfold couR at h
  unfold couS
  cases hP : prAll A.T A.tl A.S with
  | inl f => exact hI
  | inr q =>
    rw [hP] at h
    have hlt : sn A.S 6 < 12 := by
      refine Classical.byContradiction (fun c => ?_)
      have h : (if 12 ≤ sn A.S 6 then ((2, 0) : Nat × Int32) else (0, nI (sn A.S 6 + 1))).1 = 0 := h
      rw [if_pos (by omega)] at h
      cases h
    have hok : OKS B A.S q.2 := prAll_ok hI.1 hI.2.1 hP
    refine ⟨hok.1.up6 (by omega), Str.dr6 hok.2.1 (fun i h6 => upd_ne h6), hI.2.2.1.ext (fun i hi => ?_), Nat.zero_le _, fun i hi => absurd hi (Nat.not_lt_zero _), hI.2.2.2.2.2.1, Nat.zero_le _, fun i hi => absurd hi (Nat.not_lt_zero _)⟩
    · show upd q.2 6 (nI (sn A.S 6 + 1)) i = A.S i
      rw [upd_ne (by omega)]
      rcases hi with h | h
      · rw [h]; exact hok.2.2.2.1
      · exact hok.2.2.2.2 i h
