/-! A CONDITION: what it comes to, and that it is well made -/
def opR (s : Nat) (a b : Int32) : Int32 := if s = 11 then a + b else if s = 12 then (if a < b then 1 else 0) else if s = 13 then (if b < a then 1 else 0) else if s = 15 then (if a + b = 2 then 1 else 0) else (if 0 < a + b then 1 else 0)
def evM (S sc : Nat → Int32) (i : Nat) (c : Nat × (Nat → Int32)) : Nat × (Nat → Int32) :=
  if sn S (758 + 2 * i) ≤ 10 then (c.1 + 1, upd c.2 c.1 (if sn S (758 + 2 * i) = 10 then S (759 + 2 * i) else sc (sn S (758 + 2 * i))))
  else if sn S (758 + 2 * i) = 14 then (c.1, upd c.2 (c.1 - 1) (1 - c.2 (c.1 - 1)))
  else (c.1 - 1, upd c.2 (c.1 - 1 - 1) (opR (sn S (758 + 2 * i)) (c.2 (c.1 - 1 - 1)) (c.2 (c.1 - 1))))
def tyM (S : Nat → Int32) (i : Nat) (c : Nat × (Nat → Bool)) : Nat × (Nat → Bool) :=
  if sn S (758 + 2 * i) ≤ 10 then (c.1 + 1, va_up c.2 c.1 (decide (sn S (758 + 2 * i) = 8 ∨ sn S (758 + 2 * i) = 9)))
  else if sn S (758 + 2 * i) = 14 then c
  else (c.1 - 1, va_up c.2 (c.1 - 1 - 1) (decide (sn S (758 + 2 * i) ≠ 11)))
def evS (S sc : Nat → Int32) (a : Nat) : Nat → Nat × (Nat → Int32)
  | 0 => (0, fun _ => 0)
  | k + 1 => evM S sc (a + k) (evS S sc a k)
def tyS (S : Nat → Int32) (a : Nat) : Nat → Nat × (Nat → Bool)
  | 0 => (0, fun _ => false)
  | k + 1 => tyM S (a + k) (tyS S a k)
def okM (S : Nat → Int32) (i : Nat) (c : Nat × (Nat → Bool)) : Prop := isN S (758 + 2 * i) 17 ∧ (sn S (758 + 2 * i) = 10 → isN S (759 + 2 * i) 1000) ∧ (sn S (758 + 2 * i) ≤ 10 → c.1 ≤ 39) ∧ (sn S (758 + 2 * i) = 14 → 1 ≤ c.1 ∧ c.2 (c.1 - 1) = true) ∧ (11 ≤ sn S (758 + 2 * i) → sn S (758 + 2 * i) ≠ 14 → 2 ≤ c.1 ∧ (15 ≤ sn S (758 + 2 * i) → c.2 (c.1 - 1) = true ∧ c.2 (c.1 - 1 - 1) = true))
/-- well made: n steps from a on -/
def WT (S : Nat → Int32) (a n : Nat) : Prop := (∀ k, k < n → okM S (a + k) (tyS S a k)) ∧ ((tyS S a n).1 = 0 ∨ ((tyS S a n).1 = 1 ∧ (tyS S a n).2 0 = true))
/-- whether it holds -/
def hld (S sc : Nat → Int32) (a n : Nat) : Bool := decide ((evS S sc a n).1 = 0 ∨ (evS S sc a n).2 0 = 1)
theorem opR_bit (s : Nat) (a b : Int32) (h : s ≠ 11) : opR s a b = 0 ∨ opR s a b = 1 := by
  unfold opR
  rw [if_neg h]
  split
  · split
    · exact Or.inr rfl
    · exact Or.inl rfl
  · split
    · split
      · exact Or.inr rfl
      · exact Or.inl rfl
    · split
      · split
        · exact Or.inr rfl
        · exact Or.inl rfl
      · split
        · exact Or.inr rfl
        · exact Or.inl rfl
theorem ev_ty {S sc : Nat → Int32} {a n : Nat} (hw : ∀ k, k < n → okM S (a + k) (tyS S a k)) (hsc : ∀ i, i = 8 ∨ i = 9 → sc i = 0 ∨ sc i = 1) : ∀ k, k ≤ n → (evS S sc a k).1 = (tyS S a k).1 ∧ (tyS S a k).1 ≤ 40 ∧ ∀ j, j < (tyS S a k).1 → (tyS S a k).2 j = true → (evS S sc a k).2 j = 0 ∨ (evS S sc a k).2 j = 1 := by
  intro k
  induction k with
  | zero => intro _; exact ⟨rfl, Nat.zero_le _, fun j hj => absurd hj (Nat.not_lt_zero _)⟩
  | succ k ih =>
    intro hk
    obtain ⟨h1, h2, h3⟩ := ih (by omega)
    obtain ⟨w1, w2, w3, w4, w5⟩ := hw k (by omega)
    rw [show evS S sc a (k + 1) = evM S sc (a + k) (evS S sc a k) from rfl, show tyS S a (k + 1) = tyM S (a + k) (tyS S a k) from rfl]
    unfold evM tyM
    generalize evS S sc a k = c at h1 h3 ⊢
    generalize tyS S a k = t at h1 h2 h3 w3 w4 w5 ⊢
    generalize hs : sn S (758 + 2 * (a + k)) = s at w1 w2 w3 w4 w5 ⊢
    by_cases c1 : s ≤ 10
    · simp only [if_pos c1]
      refine ⟨by rw [h1], by have := w3 c1; omega, fun j hj ht => ?_⟩
      by_cases e : j = t.1
      · subst e
        rw [h1, upd_self]
        rw [va_up_self, decide_eq_true_iff] at ht
        rw [if_neg (by omega)]
        exact hsc s ht
      · rw [h1, upd_ne e]
        rw [va_up_ne _ _ e] at ht
        exact h3 j (by omega) ht
    · simp only [if_neg c1]
      by_cases c2 : s = 14
      · simp only [if_pos c2]
        refine ⟨h1, h2, fun j hj ht => ?_⟩
        by_cases e : j = t.1 - 1
        · subst e
          rw [h1, upd_self]
          rcases h3 (t.1 - 1) hj (w4 c2).2 with h9 | h9
          · rw [h9]; right; rfl
          · rw [h9]; left; rfl
        · rw [h1, upd_ne e]; exact h3 j hj ht
      · simp only [if_neg c2]
        have h5 := w5 (by omega) c2
        refine ⟨by rw [h1], by omega, fun j hj ht => ?_⟩
        by_cases e : j = t.1 - 1 - 1
        · subst e
          rw [h1, upd_self]
          rw [va_up_self, decide_eq_true_iff] at ht
          exact opR_bit _ _ _ ht
        · rw [h1, upd_ne e]
          rw [va_up_ne _ _ e] at ht
          exact h3 j (by omega) ht
theorem jnd_op {s : Nat} {a b : Int32} (h : s = 11 ∨ s = 12 ∨ s = 13 ∨ s = 15 ∨ s = 16) (hb : 15 ≤ s → (a = 0 ∨ a = 1) ∧ (b = 0 ∨ b = 1)) : jnd (if s = 15 then 1014 else if s = 16 then 1015 else nI (1000 + s)) a b = opR s a b := by
  rcases h with rfl | rfl | rfl | rfl | rfl
  · rfl
  · rfl
  · rfl
  · obtain ⟨h1, h2⟩ := hb (by omega)
    rcases h1 with rfl | rfl <;> rcases h2 with rfl | rfl <;> decide
  · obtain ⟨h1, h2⟩ := hb (by omega)
    rcases h1 with rfl | rfl <;> rcases h2 with rfl | rfl <;> decide
theorem cd_of {S : Nat → Int32} {i : Nat} (h : isN S (758 + 2 * i) 17) (h10 : sn S (758 + 2 * i) = 10 → isN S (759 + 2 * i) 1000) : cdOf (S (758 + 2 * i)) (S (759 + 2 * i)) = nI (if sn S (758 + 2 * i) = 10 then sn S (759 + 2 * i) else if sn S (758 + 2 * i) < 10 then 1000 + sn S (758 + 2 * i) else if sn S (758 + 2 * i) = 14 then 1010 else if sn S (758 + 2 * i) = 15 then 1014 else if sn S (758 + 2 * i) = 16 then 1015 else 1000 + sn S (758 + 2 * i)) := by
  obtain ⟨h1, h2⟩ := h
  rw [h1]
  generalize hs : sn S (758 + 2 * i) = s at h2 h10 ⊢
  have h9 : ∀ s, s < 17 → ∀ n : Int32, s ≠ 10 → cdOf (nI s) n = nI (if s < 10 then 1000 + s else if s = 14 then 1010 else if s = 15 then 1014 else if s = 16 then 1015 else 1000 + s) := by
    intro s hs n hn
    have h8 : ∀ s, s < 17 → s ≠ 10 → (¬ nI s = 10) ∧ (if nI s < 10 then 1000 + nI s else if nI s = 14 then 1010 else if nI s = 15 then 1014 else if nI s = 16 then 1015 else 1000 + nI s) = nI (if s < 10 then 1000 + s else if s = 14 then 1010 else if s = 15 then 1014 else if s = 16 then 1015 else 1000 + s) := by decide +kernel
    unfold cdOf
    rw [if_neg (h8 s hs hn).1]
    exact (h8 s hs hn).2
  by_cases e : s = 10
  · subst e
    rw [if_pos rfl, ← (h10 rfl).1]
    rfl
  · rw [if_neg e]
    exact h9 s h2 _ e
theorem mu_va {sg : Mg} {a k : Nat} {f : Nat → Int32} {x : Int32} : mu (va_up sg a f) a k x = va_up sg a (upd f k x) := by
  unfold mu
  rw [va_up2, va_up_self]
