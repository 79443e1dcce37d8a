/-! LAW: conditions as they are read (made by wip/whole/gen89zzb.py) -/
abbrev LE : Type := List (Nat × Nat)
abbrev LR : Type := Nat ⊕ (Nat × LE)
def bnL (x : LR) (f : Nat → LE → LR) : LR := match x with
  | .inl e => .inl e
  | .inr q => f q.1 q.2
theorem bnL_l {x : LR} {e : Nat} {f : Nat → LE → LR} (h : x = .inl e) : bnL x f = .inl e := by rw [h]; rfl
theorem bnL_r {x : LR} {k : Nat} {E : LE} {f : Nat → LE → LR} (h : x = .inr (k, E)) : bnL x f = f k E := by rw [h]; rfl
theorem bnL_inr {x : LR} {f : Nat → LE → LR} {q : Nat × LE} (h : bnL x f = .inr q) : ∃ k E, x = .inr (k, E) ∧ f k E = .inr q := by
  cases x with
  | inl e => cases h
  | inr v => exact ⟨v.1, v.2, rfl, h⟩
theorem sel_lr {P : Prop} {a : LR} {f : Nat} {q : Nat × LE} (h : sel P a (.inl f) = .inr q) : P ∧ a = .inr q := by
  by_cases c : P
  · rw [sel_t c] at h; exact ⟨c, h⟩
  · rw [sel_f c] at h; cases h
section
variable (T : Nat → Int32) (n : Nat)
/-- which number of a part stands there; 8: none -/
noncomputable def ptW (k : Nat) : Nat := sel (isW T n k (am_SL 25)) 0 (sel (isW T n k (am_SL 26)) 1 (sel (isW T n k (am_SL 27)) 2 (sel (isW T n k (am_SL 28)) 3 (sel (isW T n k (am_SL 29)) 4 (sel (isW T n k (am_SL 30)) 5 (sel (isW T n k (am_SL 31)) 6 (sel (isW T n k (am_SL 32)) 7 (8))))))))
noncomputable def pPart (k : Nat) (E : LE) : LR := sel (isU T n k) (sel (tkP T n k 3 0 1000) (.inr (nxK T n k, E ++ [(10, numK T n k)])) (.inl (spK T n k))) (sel (ptW T n k < 8) (.inr (nxK T n k, E ++ [(ptW T n k, 0)])) (.inl (spK T n k)))
noncomputable def pSumR : Nat → Nat → LE → LR
  | 0, _, _ => .inl 0
  | f + 1, k, E => sel (isG T n k 43) (bnL (pPart T n (nxK T n k) E) (fun k2 E2 => pSumR f k2 (E2 ++ [(11, 0)]))) (.inr (k, E))
noncomputable def pSum (k : Nat) (E : LE) : LR := bnL (pPart T n k E) (fun k2 E2 => pSumR T n 401 k2 E2)
noncomputable def pCmp (k : Nat) (E : LE) : LR := bnL (pSum T n k E) (fun k1 E1 => sel (isG T n k1 60 ∨ isG T n k1 62) (bnL (pSum T n (nxK T n k1) E1) (fun k2 E2 => .inr (k2, E2 ++ [(sel (isG T n k1 60) 12 13, 0)]))) (.inl (spK T n k1)))
noncomputable def pBase (k : Nat) (E : LE) : LR := sel (isW T n k (am_SL 23)) (.inr (nxK T n k, E ++ [(8, 0)])) (sel (isW T n k (am_SL 24)) (.inr (nxK T n k, E ++ [(9, 0)])) (pCmp T n k E))
noncomputable def pAnd (A : Nat → LE → LR) : Nat → Nat → LE → LR
  | 0, _, _ => .inl 0
  | f + 1, k, E => sel (isW T n k (am_SL 35)) (bnL (A (nxK T n k) E) (fun k2 E2 => pAnd A f k2 (E2 ++ [(15, 0)]))) (.inr (k, E))
noncomputable def pAll (A : Nat → LE → LR) (k : Nat) (E : LE) : LR := bnL (A k E) (fun k1 E1 => pAnd T n A 401 k1 E1)
noncomputable def pOr (A : Nat → LE → LR) : Nat → Nat → LE → LR
  | 0, _, _ => .inl 0
  | f + 1, k, E => sel (isW T n k (am_SL 36)) (bnL (pAll T n A (nxK T n k) E) (fun k2 E2 => pOr A f k2 (E2 ++ [(16, 0)]))) (.inr (k, E))
noncomputable def pCnd (A : Nat → LE → LR) (k : Nat) (E : LE) : LR := bnL (pAll T n A k E) (fun k1 E1 => pOr T n A 401 k1 E1)
noncomputable def pAtm : Nat → Nat → LE → LR
  | 0, k, E => sel (isW T n k (am_SL 21) ∨ isG T n k 40) (.inl (spK T n k)) (pBase T n k E)
  | r + 1, k, E => sel (isW T n k (am_SL 21)) (bnL (pAtm r (nxK T n k) E) (fun k2 E2 => .inr (k2, E2 ++ [(14, 0)]))) (sel (isG T n k 40) (bnL (pCnd T n (pAtm r) (nxK T n k) E) (fun k2 E2 => sel (isG T n k2 41) (.inr (nxK T n k2, E2)) (.inl (spK T n k2)))) (pBase T n k E))
end
section
variable {T : Nat → Int32} {n : Nat}
/-- what is read goes on, and what is written is no longer than what is read -/
def LG (n k : Nat) (E : LE) (x : LR) : Prop := ∀ k' E', x = .inr (k', E') → k < k' ∧ k' ≤ n ∧ E'.length + k ≤ E.length + k'
def LGe (n k : Nat) (E : LE) (x : LR) : Prop := ∀ k' E', x = .inr (k', E') → k ≤ k' ∧ k' ≤ n ∧ E'.length + k ≤ E.length + k'
theorem nx_w {k : Nat} (hk : k ≤ n) {w : List Int32} (hw : w ≠ []) (h : isW T n k w) : k < nxK T n k ∧ nxK T n k ≤ n ∧ spK T n k < n := by
  have h1 := spK_ok (T := T) hk
  have h2 := nxK_ok (T := T) hk
  by_cases c : n ≤ spK T n k
  · exact absurd h (isW_end hk c hw)
  · have := h2.2.2 (by omega)
    omega
theorem nx_g {k : Nat} (hk : k ≤ n) {c : Int32} (h : isG T n k c) : k < nxK T n k ∧ nxK T n k ≤ n ∧ spK T n k < n := by
  have h1 := spK_ok (T := T) hk
  have h2 := nxK_ok (T := T) hk
  have := h2.2.2 h.1
  have := h.1
  omega
theorem nx_u {k : Nat} (hk : k ≤ n) (h : isU T n k) : k < nxK T n k ∧ nxK T n k ≤ n ∧ spK T n k < n := by
  have h1 := spK_ok (T := T) hk
  have h2 := nxK_ok (T := T) hk
  have := h2.2.2 h.1
  have := h.1
  omega
theorem ptW_w {k : Nat} (h : ptW T n k < 8) : ∃ j, j ∈ [25, 26, 27, 28, 29, 30, 31, 32] ∧ isW T n k (am_SL j) := by
  refine Classical.byContradiction (fun g => ?_)
  have g : ∀ j, j ∈ [25, 26, 27, 28, 29, 30, 31, 32] → ¬ isW T n k (am_SL j) := fun j hj hw => g ⟨j, hj, hw⟩
  unfold ptW at h
  rw [sel_f (g 25 (by decide)), sel_f (g 26 (by decide)), sel_f (g 27 (by decide)), sel_f (g 28 (by decide)), sel_f (g 29 (by decide)), sel_f (g 30 (by decide)), sel_f (g 31 (by decide)), sel_f (g 32 (by decide))] at h
  omega
theorem nx_p {k : Nat} (hk : k ≤ n) (h : ptW T n k < 8) : k < nxK T n k ∧ nxK T n k ≤ n ∧ spK T n k < n := by
  obtain ⟨j, hj, hw⟩ := ptW_w h
  refine nx_w hk ?_ hw
  have : ∀ j, j ∈ [25, 26, 27, 28, 29, 30, 31, 32] → am_SL j ≠ [] := by decide
  exact this j hj
theorem pPart_g {k : Nat} (hk : k ≤ n) (E : LE) : LG n k E (pPart T n k E) := fun k' E' h => by
  unfold pPart at h
  by_cases c : isU T n k
  · rw [sel_t c] at h
    obtain ⟨c2, h⟩ := sel_lr h
    have := nx_u hk c
    cases h
    refine ⟨this.1, this.2.1, ?_⟩
    rw [List.length_append]
    show E.length + 1 + k ≤ _
    omega
  · rw [sel_f c] at h
    obtain ⟨c2, h⟩ := sel_lr h
    have := nx_p hk c2
    cases h
    refine ⟨this.1, this.2.1, ?_⟩
    rw [List.length_append]
    show E.length + 1 + k ≤ _
    omega
theorem pSumR_g : ∀ (f : Nat) {k : Nat} (_ : k ≤ n) (E : LE), LGe n k E (pSumR T n f k E)
  | 0, _, _, _ => fun k' E' h => by cases h
  | f + 1, k, hk, E => fun k' E' h => by
    unfold pSumR at h
    by_cases c : isG T n k 43
    · rw [sel_t c] at h
      obtain ⟨k2, E2, h1, h2⟩ := bnL_inr h
      have g1 := nx_g hk c
      have g2 := pPart_g g1.2.1 E _ _ h1
      have g3 := pSumR_g f g2.2.1 _ _ _ h2
      rw [List.length_append] at g3
      have g3 : k2 ≤ k' ∧ k' ≤ n ∧ E'.length + k2 ≤ E2.length + 1 + k' := g3
      omega
    · rw [sel_f c] at h
      cases h
      exact ⟨Nat.le_refl _, hk, Nat.le_refl _⟩
theorem pSum_g {k : Nat} (hk : k ≤ n) (E : LE) : LG n k E (pSum T n k E) := fun k' E' h => by
  obtain ⟨k2, E2, h1, h2⟩ := bnL_inr h
  have g1 := pPart_g hk E _ _ h1
  have g2 := pSumR_g 401 g1.2.1 E2 _ _ h2
  omega
theorem pCmp_g {k : Nat} (hk : k ≤ n) (E : LE) : LG n k E (pCmp T n k E) := fun k' E' h => by
  obtain ⟨k1, E1, h1, h2⟩ := bnL_inr h
  have g1 := pSum_g hk E _ _ h1
  obtain ⟨c, h2⟩ := sel_lr h2
  have g2 : k1 < nxK T n k1 ∧ nxK T n k1 ≤ n ∧ spK T n k1 < n := c.elim (nx_g g1.2.1) (nx_g g1.2.1)
  obtain ⟨k2, E2, h3, h4⟩ := bnL_inr h2
  have g3 := pSum_g g2.2.1 E1 _ _ h3
  cases h4
  rw [List.length_append]
  show _ ∧ _ ∧ E2.length + 1 + k ≤ _
  omega
theorem pBase_g {k : Nat} (hk : k ≤ n) (E : LE) : LG n k E (pBase T n k E) := fun k' E' h => by
  unfold pBase at h
  by_cases c : isW T n k (am_SL 23)
  · rw [sel_t c] at h
    have := nx_w hk (by decide) c
    cases h
    refine ⟨this.1, this.2.1, ?_⟩
    rw [List.length_append]
    show E.length + 1 + k ≤ _
    omega
  rw [sel_f c] at h
  by_cases c2 : isW T n k (am_SL 24)
  · rw [sel_t c2] at h
    have := nx_w hk (by decide) c2
    cases h
    refine ⟨this.1, this.2.1, ?_⟩
    rw [List.length_append]
    show E.length + 1 + k ≤ _
    omega
  rw [sel_f c2] at h
  exact pCmp_g hk E _ _ h
theorem pAnd_g {A : Nat → LE → LR} (hA : ∀ k, k ≤ n → ∀ E, LG n k E (A k E)) : ∀ (f : Nat) {k : Nat} (_ : k ≤ n) (E : LE), LGe n k E (pAnd T n A f k E)
  | 0, _, _, _ => fun k' E' h => by cases h
  | f + 1, k, hk, E => fun k' E' h => by
    unfold pAnd at h
    by_cases c : isW T n k (am_SL 35)
    · rw [sel_t c] at h
      obtain ⟨k2, E2, h1, h2⟩ := bnL_inr h
      have g1 := nx_w hk (by decide) c
      have g2 := hA _ g1.2.1 E _ _ h1
      have g3 := pAnd_g hA f g2.2.1 _ _ _ h2
      rw [List.length_append] at g3
      have g3 : k2 ≤ k' ∧ k' ≤ n ∧ E'.length + k2 ≤ E2.length + 1 + k' := g3
      omega
    · rw [sel_f c] at h
      cases h
      exact ⟨Nat.le_refl _, hk, Nat.le_refl _⟩
theorem pAll_g {A : Nat → LE → LR} (hA : ∀ k, k ≤ n → ∀ E, LG n k E (A k E)) {k : Nat} (hk : k ≤ n) (E : LE) : LG n k E (pAll T n A k E) := fun k' E' h => by
  obtain ⟨k2, E2, h1, h2⟩ := bnL_inr h
  have g1 := hA _ hk E _ _ h1
  have g2 := pAnd_g hA 401 g1.2.1 E2 _ _ h2
  omega
theorem pOr_g {A : Nat → LE → LR} (hA : ∀ k, k ≤ n → ∀ E, LG n k E (A k E)) : ∀ (f : Nat) {k : Nat} (_ : k ≤ n) (E : LE), LGe n k E (pOr T n A f k E)
  | 0, _, _, _ => fun k' E' h => by cases h
  | f + 1, k, hk, E => fun k' E' h => by
    unfold pOr at h
    by_cases c : isW T n k (am_SL 36)
    · rw [sel_t c] at h
      obtain ⟨k2, E2, h1, h2⟩ := bnL_inr h
      have g1 := nx_w hk (by decide) c
      have g2 := pAll_g hA g1.2.1 E _ _ h1
      have g3 := pOr_g hA f g2.2.1 _ _ _ h2
      rw [List.length_append] at g3
      have g3 : k2 ≤ k' ∧ k' ≤ n ∧ E'.length + k2 ≤ E2.length + 1 + k' := g3
      omega
    · rw [sel_f c] at h
      cases h
      exact ⟨Nat.le_refl _, hk, Nat.le_refl _⟩
theorem pCnd_g {A : Nat → LE → LR} (hA : ∀ k, k ≤ n → ∀ E, LG n k E (A k E)) {k : Nat} (hk : k ≤ n) (E : LE) : LG n k E (pCnd T n A k E) := fun k' E' h => by
  obtain ⟨k2, E2, h1, h2⟩ := bnL_inr h
  have g1 := pAll_g hA hk E _ _ h1
  have g2 := pOr_g hA 401 g1.2.1 E2 _ _ h2
  omega
theorem pAtm_g : ∀ (r : Nat) {k : Nat} (_ : k ≤ n) (E : LE), LG n k E (pAtm T n r k E)
  | 0, k, hk, E => fun k' E' h => by
    unfold pAtm at h
    by_cases c : isW T n k (am_SL 21) ∨ isG T n k 40
    · rw [sel_t c] at h; cases h
    · rw [sel_f c] at h; exact pBase_g hk E _ _ h
  | r + 1, k, hk, E => fun k' E' h => by
    unfold pAtm at h
    by_cases c : isW T n k (am_SL 21)
    · rw [sel_t c] at h
      obtain ⟨k2, E2, h1, h2⟩ := bnL_inr h
      have g1 := nx_w hk (by decide) c
      have g2 := pAtm_g r g1.2.1 E _ _ h1
      cases h2
      rw [List.length_append]
      show _ ∧ _ ∧ E2.length + 1 + k ≤ _
      omega
    rw [sel_f c] at h
    by_cases c2 : isG T n k 40
    · rw [sel_t c2] at h
      obtain ⟨k2, E2, h1, h2⟩ := bnL_inr h
      have g1 := nx_g hk c2
      have g2 := pCnd_g (fun k hk E => pAtm_g r hk E) g1.2.1 E _ _ h1
      obtain ⟨c3, h2⟩ := sel_lr h2
      have g3 := nx_g g2.2.1 c3
      cases h2
      omega
    · rw [sel_f c2] at h
      exact pBase_g hk E _ _ h
end
