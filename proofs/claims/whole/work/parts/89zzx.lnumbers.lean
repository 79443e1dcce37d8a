/-! LAW: the code that is read, as numbers (made by wip/whole/gen89zzx.py) -/
theorem ty_of {S : Nat → Int32} {a : Nat} : ∀ (D : LE) (k : Nat) (c : TC), tyS S a k = c → (∀ i, i < D.length → S (758 + 2 * (a + k + i)) = nI (D.getD i (0, 0)).1 ∧ S (759 + 2 * (a + k + i)) = nI (D.getD i (0, 0)).2) → okE D c → (∀ j, k ≤ j → j < k + D.length → okM S (a + j) (tyS S a j)) ∧ tyS S a (k + D.length) = tyL D c
  | [], k, c, h, _, _ => ⟨fun j h1 h2 => absurd (show j < k from h2) (by omega), h⟩
  | q :: D, k, c, h, hS, hok => by
    obtain ⟨h1, h2⟩ := hok
    obtain ⟨e1, e2⟩ := hS 0 (Nat.succ_pos _)
    have e1 : S (758 + 2 * (a + k)) = nI q.1 := e1
    have e2 : S (759 + 2 * (a + k)) = nI q.2 := e2
    have sn1 : sn S (758 + 2 * (a + k)) = q.1 := sn_nI e1 (by have := h1.1; omega)
    have et : tyS S a (k + 1) = tmT q c := by
      show tyM S (a + k) (tyS S a k) = tmT q c
      rw [h]
      unfold tyM tmT
      rw [sn1]
    have ih := ty_of D (k + 1) (tmT q c) et (fun i hi => by
      have := hS (i + 1) (Nat.succ_lt_succ hi)
      rw [show a + k + (i + 1) = a + (k + 1) + i by omega] at this
      exact this) h2
    refine ⟨fun j g1 g2 => ?_, ?_⟩
    · by_cases ej : j = k
      · subst ej
        rw [h]
        unfold okM isN
        rw [sn1]
        refine ⟨⟨e1, h1.1⟩, fun h10 => ?_, h1.2.2.1, h1.2.2.2.1, h1.2.2.2.2⟩
        have := h1.2.1 h10
        have e3 := sn_nI e2 (by omega)
        rw [e3]
        exact ⟨e2, this⟩
      · exact ih.1 j (by omega) (by have g2 : j < k + (D.length + 1) := g2; omega)
    · rw [show k + (q :: D).length = k + 1 + D.length from by show k + (D.length + 1) = _; omega]
      exact ih.2
theorem WT.of {S : Nat → Int32} {E : LE} {a b : Nat} (hS : ∀ i, i < E.length → S (758 + 2 * i) = nI (E.getD i (0, 0)).1 ∧ S (758 + 2 * i + 1) = nI (E.getD i (0, 0)).2) (h : lnK E a b) : a ≤ b ∧ b ≤ E.length ∧ WT S a (b - a) := by
  obtain ⟨X, C, Y, e, ha, hb, hC⟩ := h
  have hl : E.length = X.length + C.length + Y.length := by rw [e, List.length_append, List.length_append]
  have hn : b - a = C.length := by omega
  refine ⟨by omega, by omega, ?_⟩
  rw [hn]
  rcases hC with rfl | hC
  · exact ⟨fun k hk => absurd hk (Nat.not_lt_zero _), Or.inl rfl⟩
  · obtain ⟨h1, h2, h3, h4⟩ := hC (0, fun _ => false) (by decide)
    have g := ty_of (S := S) (a := a) C 0 (0, fun _ => false) rfl (fun i hi => by
      have h := hS (a + i) (by omega)
      have eg : E.getD (a + i) (0, 0) = C.getD i (0, 0) := by
        rw [e, List.getD_eq_getElem?_getD, List.getD_eq_getElem?_getD, List.append_assoc, List.getElem?_append_right (by omega), show a + i - X.length = i by omega, List.getElem?_append_left hi]
      rw [eg] at h
      rw [show 759 + 2 * (a + 0 + i) = 758 + 2 * (a + i) + 1 by omega, show a + 0 + i = a + i by omega]
      exact h) h1
    refine ⟨fun k hk => g.1 k (Nat.zero_le _) (by omega), Or.inr ?_⟩
    have g2 := g.2
    rw [Nat.zero_add] at g2
    rw [g2]
    exact ⟨h2, h4⟩
