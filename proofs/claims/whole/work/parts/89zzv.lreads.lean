/-! LAW: what is read is well typed (made by wip/whole/gen89zzv.py) -/
/-- what this reads is such a piece -/
def GK (n : Nat) (A : Nat → LE → LR) (m : Nat) (b : Bool) : Prop := ∀ k, k ≤ n → ∀ (E : LE) (q : Nat × LE), A k E = .inr q → ∃ C, q.2 = E ++ C ∧ CG C m b
section
variable {T : Nat → Int32} {n : Nat}
theorem pPart_K : GK n (pPart T n) 1 false := fun k hk E q h => by
  unfold pPart at h
  by_cases c : isU T n k
  · rw [sel_t c] at h
    obtain ⟨c2, h⟩ := sel_lr h
    cases h
    exact ⟨[(10, numK T n k)], rfl, CG.one (s := 10) (by decide) (fun _ => c2.2.2.2)⟩
  · rw [sel_f c] at h
    obtain ⟨c2, h⟩ := sel_lr h
    cases h
    refine ⟨[(ptW T n k, 0)], rfl, ?_⟩
    have h := CG.one (s := ptW T n k) (v := 0) (by omega) (fun _ => by decide)
    rw [decide_eq_false (by omega)] at h
    exact h

theorem pSumR_K  : ∀ (f k : Nat) (E C : LE) (q : Nat × LE), k ≤ n → CG C (1 + 1) false → pSumR T n f k (E ++ C) = .inr q → ∃ C', q.2 = E ++ C' ∧ CG C' (1 + 1) false
  | 0, _, _, _, _, _, _, h => by cases h
  | f + 1, k, E, C, q, hk, hC, h => by
    by_cases c : isG T n k 43
    · have h : bnL (pPart T n (nxK T n k) (E ++ C)) (fun k2 E2 => pSumR T n f k2 (E2 ++ [(11, 0)])) = .inr q := (sel_t c).symm.trans h
      obtain ⟨k2, E2, h1, h2⟩ := bnL_inr h
      have g1 := nx_g hk c
      obtain ⟨F, e1, e2⟩ := pPart_K _ g1.2.1 (E ++ C) (k2, E2) h1
      have e1 : E2 = E ++ C ++ F := e1
      have g2 := pPart_g g1.2.1 (E ++ C) k2 E2 h1
      have e3 : E2 ++ [(11, 0)] = E ++ (C ++ F ++ [(11, 0)]) := by rw [e1, List.append_assoc, List.append_assoc, List.append_assoc]
      rw [e3] at h2
      exact pSumR_K  f k2 E (C ++ F ++ [(11, 0)]) q g2.2.1 (CG.bin hC e2 (by decide) (by decide)) h2
    · have h : (.inr (k, E ++ C) : LR) = .inr q := (sel_f c).symm.trans h
      cases h
      exact ⟨C, rfl, hC⟩
theorem pSum_K  : GK n (pSum T n) (1 + 1) false := fun k hk E q h => by
  have h : bnL (pPart T n k E) (fun k1 E1 => pSumR T n 401 k1 E1) = .inr q := h
  obtain ⟨k2, E2, h1, h2⟩ := bnL_inr h
  obtain ⟨F, e1, e2⟩ := pPart_K _ hk E (k2, E2) h1
  have e1 : E2 = E ++ F := e1
  have g2 := pPart_g hk E k2 E2 h1
  rw [e1] at h2
  exact pSumR_K  401 k2 E F q g2.2.1 (e2.mono (Nat.le_succ _)) h2

theorem pAllR_K {A : Nat → LE → LR} {m : Nat} (hA : GK n A m true) (hG : ∀ k, k ≤ n → ∀ E, LG n k E (A k E)) : ∀ (f k : Nat) (E C : LE) (q : Nat × LE), k ≤ n → CG C (m + 1) true → pAnd T n A f k (E ++ C) = .inr q → ∃ C', q.2 = E ++ C' ∧ CG C' (m + 1) true
  | 0, _, _, _, _, _, _, h => by cases h
  | f + 1, k, E, C, q, hk, hC, h => by
    by_cases c : isW T n k (am_SL 35)
    · have h : bnL (A (nxK T n k) (E ++ C)) (fun k2 E2 => pAnd T n A f k2 (E2 ++ [(15, 0)])) = .inr q := (sel_t c).symm.trans h
      obtain ⟨k2, E2, h1, h2⟩ := bnL_inr h
      have g1 := nx_w hk (by decide) c
      obtain ⟨F, e1, e2⟩ := hA _ g1.2.1 (E ++ C) (k2, E2) h1
      have e1 : E2 = E ++ C ++ F := e1
      have g2 := hG _ g1.2.1 (E ++ C) k2 E2 h1
      have e3 : E2 ++ [(15, 0)] = E ++ (C ++ F ++ [(15, 0)]) := by rw [e1, List.append_assoc, List.append_assoc, List.append_assoc]
      rw [e3] at h2
      exact pAllR_K hA hG f k2 E (C ++ F ++ [(15, 0)]) q g2.2.1 (CG.bin hC e2 (by decide) (by decide)) h2
    · have h : (.inr (k, E ++ C) : LR) = .inr q := (sel_f c).symm.trans h
      cases h
      exact ⟨C, rfl, hC⟩
theorem pAll_K {A : Nat → LE → LR} {m : Nat} (hA : GK n A m true) (hG : ∀ k, k ≤ n → ∀ E, LG n k E (A k E)) : GK n (pAll T n A) (m + 1) true := fun k hk E q h => by
  have h : bnL (A k E) (fun k1 E1 => pAnd T n A 401 k1 E1) = .inr q := h
  obtain ⟨k2, E2, h1, h2⟩ := bnL_inr h
  obtain ⟨F, e1, e2⟩ := hA _ hk E (k2, E2) h1
  have e1 : E2 = E ++ F := e1
  have g2 := hG _ hk E k2 E2 h1
  rw [e1] at h2
  exact pAllR_K hA hG 401 k2 E F q g2.2.1 (e2.mono (Nat.le_succ _)) h2

theorem pCndR_K {A : Nat → LE → LR} {m : Nat} (hA : GK n A m true) (hG : ∀ k, k ≤ n → ∀ E, LG n k E (A k E)) : ∀ (f k : Nat) (E C : LE) (q : Nat × LE), k ≤ n → CG C ((m + 1) + 1) true → pOr T n A f k (E ++ C) = .inr q → ∃ C', q.2 = E ++ C' ∧ CG C' ((m + 1) + 1) true
  | 0, _, _, _, _, _, _, h => by cases h
  | f + 1, k, E, C, q, hk, hC, h => by
    by_cases c : isW T n k (am_SL 36)
    · have h : bnL (pAll T n A (nxK T n k) (E ++ C)) (fun k2 E2 => pOr T n A f k2 (E2 ++ [(16, 0)])) = .inr q := (sel_t c).symm.trans h
      obtain ⟨k2, E2, h1, h2⟩ := bnL_inr h
      have g1 := nx_w hk (by decide) c
      obtain ⟨F, e1, e2⟩ := (pAll_K hA hG) _ g1.2.1 (E ++ C) (k2, E2) h1
      have e1 : E2 = E ++ C ++ F := e1
      have g2 := pAll_g hG g1.2.1 (E ++ C) k2 E2 h1
      have e3 : E2 ++ [(16, 0)] = E ++ (C ++ F ++ [(16, 0)]) := by rw [e1, List.append_assoc, List.append_assoc, List.append_assoc]
      rw [e3] at h2
      exact pCndR_K hA hG f k2 E (C ++ F ++ [(16, 0)]) q g2.2.1 (CG.bin hC e2 (by decide) (by decide)) h2
    · have h : (.inr (k, E ++ C) : LR) = .inr q := (sel_f c).symm.trans h
      cases h
      exact ⟨C, rfl, hC⟩
theorem pCnd_K {A : Nat → LE → LR} {m : Nat} (hA : GK n A m true) (hG : ∀ k, k ≤ n → ∀ E, LG n k E (A k E)) : GK n (pCnd T n A) ((m + 1) + 1) true := fun k hk E q h => by
  have h : bnL (pAll T n A k E) (fun k1 E1 => pOr T n A 401 k1 E1) = .inr q := h
  obtain ⟨k2, E2, h1, h2⟩ := bnL_inr h
  obtain ⟨F, e1, e2⟩ := (pAll_K hA hG) _ hk E (k2, E2) h1
  have e1 : E2 = E ++ F := e1
  have g2 := pAll_g hG hk E k2 E2 h1
  rw [e1] at h2
  exact pCndR_K hA hG 401 k2 E F q g2.2.1 (e2.mono (Nat.le_succ _)) h2

theorem pCmp_K : GK n (pCmp T n) 3 true := fun k hk E q h => by
  obtain ⟨k1, E1, h1, h2⟩ := bnL_inr (show bnL (pSum T n k E) _ = .inr q from h)
  obtain ⟨F, e1, e2⟩ := pSum_K k hk E (k1, E1) h1
  have e1 : E1 = E ++ F := e1
  have g1 := pSum_g hk E k1 E1 h1
  obtain ⟨c, h2⟩ := sel_lr h2
  have hx := nxK_ok (T := T) g1.2.1
  obtain ⟨k2, E2, h3, h4⟩ := bnL_inr h2
  obtain ⟨G, e3, e4⟩ := pSum_K _ hx.2.1 E1 (k2, E2) h3
  have e3 : E2 = E1 ++ G := e3
  cases h4
  refine ⟨F ++ G ++ [(sel (isG T n k1 60) 12 13, 0)], ?_, ?_⟩
  · show E2 ++ [(sel (isG T n k1 60) 12 13, 0)] = _
    rw [e3, e1, List.append_assoc, List.append_assoc, List.append_assoc]
  · by_cases c : isG T n k1 60
    · rw [sel_t c]; exact CG.bin (e2.mono (by decide)) e4 (by decide) (by decide)
    · rw [sel_f c]; exact CG.bin (e2.mono (by decide)) e4 (by decide) (by decide)
theorem pBase_K : GK n (pBase T n) 3 true := fun k hk E q h => by
  unfold pBase at h
  by_cases c : isW T n k (am_SL 23)
  · rw [sel_t c] at h
    cases h
    exact ⟨[(8, 0)], rfl, (CG.one (s := 8) (v := 0) (by decide) (by decide)).mono (by decide)⟩
  · rw [sel_f c] at h
    by_cases c : isW T n k (am_SL 24)
    · rw [sel_t c] at h
      cases h
      exact ⟨[(9, 0)], rfl, (CG.one (s := 9) (v := 0) (by decide) (by decide)).mono (by decide)⟩
    · rw [sel_f c] at h
      exact pCmp_K k hk E q h
theorem pAtm_K : ∀ r, GK n (pAtm T n r) (3 + 2 * r) true
  | 0 => fun k hk E q h => by
    have h : sel (isW T n k (am_SL 21) ∨ isG T n k 40) (.inl (spK T n k)) (pBase T n k E) = .inr q := h
    by_cases c : isW T n k (am_SL 21) ∨ isG T n k 40
    · rw [sel_t c] at h; cases h
    · rw [sel_f c] at h; exact pBase_K k hk E q h
  | r + 1 => fun k hk E q h => by
    have hx := nxK_ok (T := T) hk
    have hG : ∀ k, k ≤ n → ∀ E, LG n k E (pAtm T n r k E) := fun k hk E => pAtm_g r hk E
    unfold pAtm at h
    by_cases c : isW T n k (am_SL 21)
    · rw [sel_t c] at h
      obtain ⟨k2, E2, h1, h2⟩ := bnL_inr h
      obtain ⟨F, e1, e2⟩ := pAtm_K r _ hx.2.1 E (k2, E2) h1
      have e1 : E2 = E ++ F := e1
      cases h2
      exact ⟨F ++ [(14, 0)], by show E2 ++ [(14, 0)] = _; rw [e1, List.append_assoc], (e2.mono (by omega)).not⟩
    · rw [sel_f c] at h
      by_cases c : isG T n k 40
      · rw [sel_t c] at h
        obtain ⟨k2, E2, h1, h2⟩ := bnL_inr h
        obtain ⟨F, e1, e2⟩ := pCnd_K (pAtm_K r) hG _ hx.2.1 E (k2, E2) h1
        have e1 : E2 = E ++ F := e1
        obtain ⟨c3, h2⟩ := sel_lr h2
        cases h2
        exact ⟨F, e1, e2.mono (by omega)⟩
      · rw [sel_f c] at h
        obtain ⟨F, e1, e2⟩ := pBase_K k hk E q h
        exact ⟨F, e1, e2.mono (by omega)⟩
end
