/-! TABLES: binding days (made by wip/whole/gen89x.py) -/
theorem md_same {D x a b c : Nat} (h0 : 1 ≤ D) (h9 : D ≤ 9) (hx : x < D) (ha : a < D) (hb : b < D) (hc : c < D) : ((x + a) % D + D - (x + b) % D) % D = c ↔ (b + c + D - a) % D = 0 := by
  have hD : D = 1 ∨ D = 2 ∨ D = 3 ∨ D = 4 ∨ D = 5 ∨ D = 6 ∨ D = 7 ∨ D = 8 ∨ D = 9 := by omega
  rcases hD with rfl | rfl | rfl | rfl | rfl | rfl | rfl | rfl | rfl <;> omega
theorem md_new {D x y a b c : Nat} (h0 : 1 ≤ D) (h9 : D ≤ 9) (hx : x < D) (hy : y < D) (ha : a < D) (hb : b < D) (hc : c < D) : ((x + a) % D + D - (y + b) % D) % D = c ↔ x = (y + (b + c + D - a) % D) % D := by
  have hD : D = 1 ∨ D = 2 ∨ D = 3 ∨ D = 4 ∨ D = 5 ∨ D = 6 ∨ D = 7 ∨ D = 8 ∨ D = 9 := by omega
  rcases hD with rfl | rfl | rfl | rfl | rfl | rfl | rfl | rfl | rfl <;> omega
theorem md_add {D y m t : Nat} : ((y + m) % D + t) % D = (y + (t + m) % D) % D := by
  rw [Nat.mod_add_mod, Nat.add_mod_mod, Nat.add_assoc, Nat.add_comm m t]
/-- days in groups, each with an offset to the day that names the group -/
def gOK (g f : Nat → Nat) (D : Nat) : Prop := ∀ a, a < D → g a < D ∧ f a < D ∧ g (g a) = g a ∧ f (g a) = 0
/-- an order of days keeps to the groups -/
def gSol (g f : Nat → Nat) (D : Nat) (w : Nat → Nat) : Prop := ∀ a, a < D → w a = (w (g a) + f a) % D
def gG (g : Nat → Nat) (a b : Nat) (x : Nat) : Nat := if g x = g a then g b else g x
def gF2 (g f : Nat → Nat) (D a m : Nat) (x : Nat) : Nat := if g x = g a then (f x + m) % D else f x
section
variable {g f w : Nat → Nat} {D a b c : Nat}
theorem gOK.bind (h : gOK g f D) (h0 : 1 ≤ D) (ha : a < D) (hb : b < D) (hne : ¬ g a = g b) (m : Nat) : gOK (gG g a b) (gF2 g f D a m) D := fun x hx => by
  have hgb := h b hb
  have hx1 := h x hx
  have e1 : gG g a b (g b) = g b := by unfold gG; rw [hgb.2.2.1, if_neg (fun e => hne e.symm)]
  have e2 : gF2 g f D a m (g b) = 0 := by unfold gF2; rw [hgb.2.2.1, if_neg (fun e => hne e.symm)]; exact hgb.2.2.2
  by_cases e : g x = g a
  · have e3 : gG g a b x = g b := if_pos e
    have e4 : gF2 g f D a m x = (f x + m) % D := if_pos e
    rw [e3, e4]
    exact ⟨hgb.1, Nat.mod_lt _ (by omega), e1, e2⟩
  · have e3 : gG g a b x = g x := if_neg e
    have e4 : gF2 g f D a m x = f x := if_neg e
    rw [e3, e4]
    refine ⟨hx1.1, hx1.2.1, ?_, ?_⟩
    · unfold gG; rw [hx1.2.2.1, if_neg e]
    · unfold gF2; rw [hx1.2.2.1, if_neg e]; exact hx1.2.2.2
/-- a clue between two groups binds them -/
theorem gSol.bind (h : gOK g f D) (h0 : 1 ≤ D) (h9 : D ≤ 9) (ha : a < D) (hb : b < D) (hc : c < D) (hne : ¬ g a = g b) (hw : ∀ x, x < D → w x < D) : gSol (gG g a b) (gF2 g f D a ((f b + c + D - f a) % D)) D w ↔ gSol g f D w ∧ (w a + D - w b) % D = c := by
  have hga := h a ha
  have hgb := h b hb
  have key := md_new h0 h9 (hw _ hga.1) (hw _ hgb.1) hga.2.1 hgb.2.1 hc
  constructor
  · intro s
    have s1 : w (g a) = (w (g b) + (f b + c + D - f a) % D) % D := by
      have := s (g a) hga.1
      rw [show gG g a b (g a) = g b from if_pos hga.2.2.1, show gF2 g f D a ((f b + c + D - f a) % D) (g a) = (f (g a) + (f b + c + D - f a) % D) % D from if_pos hga.2.2.1, hga.2.2.2, Nat.zero_add, Nat.mod_mod] at this
      exact this
    have s2 : gSol g f D w := fun x hx => by
      have := s x hx
      by_cases e : g x = g a
      · rw [show gG g a b x = g b from if_pos e, show gF2 g f D a ((f b + c + D - f a) % D) x = (f x + (f b + c + D - f a) % D) % D from if_pos e] at this
        rw [this, e, s1, md_add]
      · rw [show gG g a b x = g x from if_neg e, show gF2 g f D a ((f b + c + D - f a) % D) x = f x from if_neg e] at this
        exact this
    refine ⟨s2, ?_⟩
    rw [s2 a ha, s2 b hb]
    exact key.mpr s1
  · intro ⟨s, hcl⟩ x hx
    rw [s a ha, s b hb] at hcl
    have s1 := key.mp hcl
    have := s x hx
    by_cases e : g x = g a
    · rw [show gG g a b x = g b from if_pos e, show gF2 g f D a ((f b + c + D - f a) % D) x = (f x + (f b + c + D - f a) % D) % D from if_pos e, this, e, s1, md_add]
    · rw [show gG g a b x = g x from if_neg e, show gF2 g f D a ((f b + c + D - f a) % D) x = f x from if_neg e]
      exact this
/-- a clue within a group holds of all or of none -/
theorem gSol.same (h : gOK g f D) (h0 : 1 ≤ D) (h9 : D ≤ 9) (ha : a < D) (hb : b < D) (hc : c < D) (he : g a = g b) (hw : ∀ x, x < D → w x < D) (s : gSol g f D w) : (w a + D - w b) % D = c ↔ (f b + c + D - f a) % D = 0 := by
  have hga := h a ha
  have hgb := h b hb
  rw [s a ha, s b hb, ← he]
  exact md_same h0 h9 (hw _ hga.1) hga.2.1 hgb.2.1 hc
end
