/-! LAW: what is written is well typed (made by wip/whole/gen89zzu.py) -/
abbrev TC : Type := Nat × (Nat → Bool)
def tmT (q : Nat × Nat) (c : TC) : TC := if q.1 ≤ 10 then (c.1 + 1, va_up c.2 c.1 (decide (q.1 = 8 ∨ q.1 = 9))) else if q.1 = 14 then c else (c.1 - 1, va_up c.2 (c.1 - 1 - 1) (decide (q.1 ≠ 11)))
def okT (q : Nat × Nat) (c : TC) : Prop := q.1 < 17 ∧ (q.1 = 10 → q.2 < 1000) ∧ (q.1 ≤ 10 → c.1 ≤ 39) ∧ (q.1 = 14 → 1 ≤ c.1 ∧ c.2 (c.1 - 1) = true) ∧ (11 ≤ q.1 → q.1 ≠ 14 → 2 ≤ c.1 ∧ (15 ≤ q.1 → c.2 (c.1 - 1) = true ∧ c.2 (c.1 - 1 - 1) = true))
def tyL : LE → TC → TC
  | [], c => c
  | q :: E, c => tyL E (tmT q c)
def okE : LE → TC → Prop
  | [], _ => True
  | q :: E, c => okT q c ∧ okE E (tmT q c)
theorem tyL_app : ∀ (E F : LE) (c : TC), tyL (E ++ F) c = tyL F (tyL E c)
  | [], _, _ => rfl
  | q :: E, F, c => tyL_app E F (tmT q c)
theorem okE_app : ∀ (E F : LE) (c : TC), okE E c → okE F (tyL E c) → okE (E ++ F) c
  | [], _, _, _, h => h
  | q :: E, F, c, h, g => ⟨h.1, okE_app E F (tmT q c) h.2 g⟩
/-- a piece of code that leaves one value on top, and needs at most m places -/
def CG (C : LE) (m : Nat) (b : Bool) : Prop := ∀ c : TC, c.1 + m ≤ 40 → okE C c ∧ (tyL C c).1 = c.1 + 1 ∧ (∀ i, i < c.1 → (tyL C c).2 i = c.2 i) ∧ (tyL C c).2 c.1 = b
theorem CG.mono {C : LE} {m m' : Nat} {b : Bool} (h : CG C m b) (hm : m ≤ m') : CG C m' b := fun c hc => h c (by omega)
theorem CG.one {s v : Nat} (hs : s ≤ 10) (hv : s = 10 → v < 1000) : CG [(s, v)] 1 (decide (s = 8 ∨ s = 9)) := fun c hc => by
  have e : tyL [(s, v)] c = (c.1 + 1, va_up c.2 c.1 (decide (s = 8 ∨ s = 9))) := if_pos hs
  rw [e]
  refine ⟨⟨⟨show s < 17 by omega, hv, fun _ => by omega, fun h => ?_, fun h => ?_⟩, trivial⟩, rfl, fun i hi => ?_, ?_⟩
  · have h : s = 14 := h
    omega
  · have h : 11 ≤ s := h
    omega
  · show va_up c.2 c.1 _ i = c.2 i
    simp [va_up, show i ≠ c.1 by omega]
  · show va_up c.2 c.1 _ c.1 = _
    simp [va_up]
theorem CG.not {C : LE} {m : Nat} (h : CG C m true) : CG (C ++ [(14, 0)]) m true := fun c hc => by
  obtain ⟨h1, h2, h3, h4⟩ := h c hc
  have e : tyL (C ++ [(14, 0)]) c = tyL C c := by rw [tyL_app]; rfl
  rw [e]
  refine ⟨okE_app _ _ _ h1 ⟨⟨by decide, fun h => absurd h (by decide), fun h => absurd (show 14 ≤ 10 from h) (by decide), fun _ => ?_, fun _ h => absurd rfl h⟩, trivial⟩, h2, h3, h4⟩
  rw [h2]
  exact ⟨by omega, h4⟩
theorem CG.bin {C F : LE} {m s : Nat} {b b2 : Bool} (h : CG C (m + 1) b) (g : CG F m b2) (hs : s = 11 ∨ s = 12 ∨ s = 13 ∨ s = 15 ∨ s = 16) (hb : 15 ≤ s → b = true ∧ b2 = true) : CG (C ++ F ++ [(s, 0)]) (m + 1) (decide (s ≠ 11)) := fun c hc => by
  obtain ⟨h1, h2, h3, h4⟩ := h c hc
  obtain ⟨g1, g2, g3, g4⟩ := g (tyL C c) (by omega)
  rw [h2] at g2 g3 g4
  have e0 : tyL (C ++ F) c = tyL F (tyL C c) := tyL_app C F c
  have e : tyL (C ++ F ++ [(s, 0)]) c = (c.1 + 1, va_up (tyL F (tyL C c)).2 c.1 (decide (s ≠ 11))) := by
    rw [tyL_app, e0]
    show tmT (s, 0) (tyL F (tyL C c)) = _
    unfold tmT
    rw [if_neg (show ¬ s ≤ 10 by omega), if_neg (show ¬ s = 14 by omega), g2]
    rfl
  rw [e]
  refine ⟨okE_app _ _ _ (okE_app _ _ _ h1 g1) ?_, rfl, fun i hi => ?_, ?_⟩
  · rw [e0]
    refine ⟨⟨show s < 17 by omega, fun h => ?_, fun h => ?_, fun h => ?_, fun _ _ => ?_⟩, trivial⟩
    · have h : s = 10 := h
      omega
    · have h : s ≤ 10 := h
      omega
    · have h : s = 14 := h
      omega
    · rw [g2]
      refine ⟨by omega, fun h15 => ?_⟩
      have hb := hb h15
      refine ⟨?_, ?_⟩
      · show (tyL F (tyL C c)).2 (c.1 + 1) = true
        rw [g4, hb.2]
      · show (tyL F (tyL C c)).2 c.1 = true
        rw [g3 c.1 (by omega), h4, hb.1]
  · show va_up (tyL F (tyL C c)).2 c.1 _ i = c.2 i
    simp only [va_up, show i ≠ c.1 by omega, if_false]
    rw [g3 i (by omega), h3 i hi]
  · show va_up (tyL F (tyL C c)).2 c.1 _ c.1 = _
    simp [va_up]
