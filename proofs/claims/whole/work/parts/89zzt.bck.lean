/-! BACK once more: the numbers from 1558 on stay (made by wip/whole/gen89zzt.py) -/
def imD (A : AS) (j : Nat) : Int32 := if j < 1558 then A.im j else A.S j
/-- what was kept put back; the numbers from 1558 on stay as they are -/
def bckA (A : AS) : AS := if A.f = 1 then (imD A, 0, A.ac, A.f, A.im, A.T, A.tl, A.q) else A
theorem RI.bck {B : Nat} {A : AS} (hI : RI B A) : RI B (bckA A) := by
  unfold bckA
  by_cases c : A.f = 1
  · rw [if_pos c]
    obtain ⟨a1, a2, a3, a4, a5, a6, a7, a8⟩ := hI
    have h := a6.2 c
    have e : ∀ i, i < 1558 → imD A i = A.im i := fun i hi => if_pos hi
    exact ⟨h.1.ext (fun i hi => e i (by unfold freeI at hi; omega)), Str.dr h.1 h.2.1 (fun i hi _ => e i (by omega)), h.2.2.dr e, Nat.zero_le _, fun i hi => absurd hi (Nat.not_lt_zero _), a6, a7, a8⟩
  · rw [if_neg c]; exact hI
theorem c_bck {X : Nat × (Nat → Int32)} {d : Nat} {p : Nat → Nat} {sg : Mg} {B : Nat} {A : AS} (hI : RI B A) (hR : RC A p sg) : gF X (d + 6) 134 [vR 0] p sg (cR A (bckA A) (fun _ => 0) (0, backV A) sg) := by
  refine gF_mono (c_backR hI hR) (fun r hr => ?_)
  obtain ⟨p', s, h8, h⟩ := hr
  refine ⟨p', s, h8, ?_⟩
  rcases h with ⟨h0, h1, h2⟩ | h
  · refine Or.inl ⟨h0, ?_, h2⟩
    have hB := RI.back hI
    unfold backA at h1 hB
    unfold bckA
    by_cases c : A.f = 1
    · rw [if_pos c] at h1 hB ⊢
      exact RC.dr hB h1 (S' := imD A) (fun i hi => if_pos hi)
    · rw [if_neg c] at h1 ⊢
      exact h1
  · exact Or.inr h
theorem m_bck {X : Nat × (Nat → Int32)} {d : Nat} {p : Nat → Nat} {sg : Mg} {B : Nat} {A : AS} (hI : RI B A) (hR : RM A sg) : gF X (d + 1) 180 [vR 800] p sg (mR A (bckA A) (0, backV A) p sg) := by
  have hf := hI.2.2.2.2.2.1
  have h5 := hR.2.2.2.1
  by_cases c : A.f = 1
  · refine gF_mono (m_back1 (by rw [h5, c]; decide)) (fun r hr => ?_)
    rw [hr]
    obtain ⟨r1, r2, r3, r4, r5, r6, r7, r8, r9⟩ := hR
    refine mR_v (A' := bckA A) ?_ (fun c hc => by rw [mu_ne (by omega), va_up_ne _ _ (by omega), mu_ne (by omega)]) (by rw [mu_idx (by decide), va_up_ne _ _ (by decide), mu_self]) (by unfold backV; rw [if_pos c])
    unfold bckA
    rw [if_pos c]
    refine ⟨?_, ?_, fun i j hi hj => absurd hi (Nat.not_lt_zero _), ?_, fun hf j hj => ?_, ?_, fun i hi => ?_, ?_, ?_⟩
    · rw [mu_ne (by decide), va_up_self]
      funext j
      show (if j < 1558 then sg 802 j else sg 801 j) = (if j < 1558 then A.im j else A.S j)
      by_cases hj : j < 1558
      · rw [if_pos hj, if_pos hj]; exact r5 c j hj
      · rw [if_neg hj, if_neg hj, r1]
    · rw [mu_self]; rfl
    · rw [mu_idx (by decide), va_up_ne _ _ (by decide), mu_idx (by decide)]; exact r4
    · rw [mu_ne (by decide), va_up_ne _ _ (by decide), mu_ne (by decide)]; exact r5 hf j hj
    · rw [mu_idx (by decide), va_up_ne _ _ (by decide), mu_idx (by decide)]; exact r6
    · rw [mu_ne (by decide), va_up_ne _ _ (by decide), mu_ne (by decide)]; exact r7 i hi
    · rw [mu_idx (by decide), va_up_ne _ _ (by decide), mu_idx (by decide)]; exact r8
    · rw [mu_ne (by decide), va_up_ne _ _ (by decide), mu_ne (by decide)]; exact r9
  · have c0 : A.f = 0 := by have := hf.1; omega
    refine gF_mono (m_back0 (by rw [h5, c0]; rfl)) (fun r hr => ?_)
    rw [hr]
    exact mR_v (A' := bckA A) (by unfold bckA; rw [if_neg c]; exact hR.th rfl) (fun c hc => up_hi hc) mu_self (by unfold backV; rw [if_neg c])
