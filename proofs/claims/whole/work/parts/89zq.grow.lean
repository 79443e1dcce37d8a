/-! COUNTRY: what a line leaves is well made (made by wip/whole/gen89zq.py) -/
theorem isN.cg {S S' : Nat → Int32} {j n m : Nat} (h : isN S j n) (e : S' j = S j) (hm : n ≤ m) : isN S' j m := by
  unfold isN sn at h ⊢
  rw [e]
  exact ⟨h.1, Nat.lt_of_lt_of_le h.2 hm⟩
theorem sn.cg {S S' : Nat → Int32} {j : Nat} (e : S' j = S j) : sn S' j = sn S j := by unfold sn; rw [e]
/-- what was stays, what is new is well made -/
theorem Inv.grow {B : Nat} {S S' : Nat → Int32} (h : Inv B S) (c0 : isN S' 0 7) (c1 : isN S' 1 9) (c2 : isN S' 2 9) (c3 : isN S' 3 13) (c4 : isN S' 4 9) (c5 : isN S' 5 9)
    (g0 : sn S 0 ≤ sn S' 0) (g1 : sn S 1 ≤ sn S' 1) (j6 : isN S' 6 13) (e7 : S' 7 = S 7) (e8 : S' 8 = S 8) (e9 : S' 9 = S 9) (e14 : S' 14 = S 14)
    (ot : ∀ v q, v < sn S 0 → q < 16 → S' (17 + 16 * v + q) = S (17 + 16 * v + q)) (op : ∀ k j, k < sn S 1 → j < 6 → S' (113 + 6 * k + j) = S (113 + 6 * k + j)) (of : ∀ k j, k < sn S 2 → j < 2 → S' (161 + 2 * k + j) = S (161 + 2 * k + j)) (or : ∀ k j, k < sn S 3 → j < 3 → S' (177 + 3 * k + j) = S (177 + 3 * k + j)) (od : ∀ k j, k < sn S 4 → j < 6 → S' (213 + 7 * k + j) = S (213 + 7 * k + j)) (ok : ∀ k j, k < sn S 5 → j < 5 → S' (269 + 5 * k + j) = S (269 + 5 * k + j))
    (nt : ∀ v, sn S 0 ≤ v → v < sn S' 0 → (∀ q, q < sn S 9 → isN S' (17 + 16 * v + q) (sn S 9)) ∧ ∀ q r, q < sn S 9 → r < sn S 9 → sn S' (17 + 16 * v + q) = sn S' (17 + 16 * v + r) → q = r)
    (np : ∀ k, sn S 1 ≤ k → k < sn S' 1 → (isN S' (113 + 6 * k) (sn S' 0) ∧ S' (113 + 6 * k + 1) = -1 ∧ S' (113 + 6 * k + 2) = -1) ∧ isN S' (113 + 6 * k + 3) 10000 ∧ isN S' (113 + 6 * k + 4) 65536 ∧ isN S' (113 + 6 * k + 5) 256)
    (nf : ∀ k, sn S 2 ≤ k → k < sn S' 2 → isN S' (161 + 2 * k) (sn S' 0) ∧ isN S' (161 + 2 * k + 1) (sn S 9))
    (nr : ∀ k, sn S 3 ≤ k → k < sn S' 3 → isN S' (177 + 3 * k) (sn S' 0) ∧ isN S' (177 + 3 * k + 1) (sn S' 0) ∧ isN S' (177 + 3 * k + 2) 6 ∧ 1 ≤ sn S' (177 + 3 * k + 2) ∧ sn S' (177 + 3 * k) ≠ sn S' (177 + 3 * k + 1))
    (nd : ∀ k, sn S 4 ≤ k → k < sn S' 4 → isN S' (213 + 7 * k) (sn S' 1) ∧ isN S' (213 + 7 * k + 1) (sn S' 1) ∧ isN S' (213 + 7 * k + 2) 1000 ∧ isN S' (213 + 7 * k + 3) (sn S' 0) ∧ isN S' (213 + 7 * k + 4) (sn S 9) ∧ isN S' (213 + 7 * k + 5) (sn S 9) ∧ 1 ≤ sn S' (213 + 7 * k + 2) ∧ sn S' (213 + 7 * k) ≠ sn S' (213 + 7 * k + 1) ∧ sn S' (213 + 7 * k + 4) ≠ sn S' (213 + 7 * k + 5))
    (nk : ∀ k, sn S 5 ≤ k → k < sn S' 5 → isN S' (269 + 5 * k) (sn S' 0) ∧ isN S' (269 + 5 * k + 1) (sn S 9) ∧ (S' (269 + 5 * k + 2) = -1 ∨ isN S' (269 + 5 * k + 2) k) ∧ S' (269 + 5 * k + 3) = -1 ∧ S' (269 + 5 * k + 4) = -1) : Inv B S' := by
  have b9 := h.b9
  obtain ⟨⟨i0, i1, i2, i3, i4, i5, i6, i7, ⟨i8, i8b⟩, ⟨i9, i9b⟩, i14⟩, t, pp, f, r, dd, kk⟩ := h
  have s9 : sn S' 9 = sn S 9 := sn.cg e9
  have s8 : sn S' 8 = sn S 8 := sn.cg e8
  refine ⟨⟨c0, c1, c2, c3, c4, c5, j6, i7.cg e7 (Nat.le_refl _), ⟨i8.cg e8 (Nat.le_refl _), i8b⟩, ⟨i9.cg e9 (Nat.le_refl _), by rw [s9]; exact i9b⟩, i14.cg e14 (Nat.le_refl _)⟩, ⟨fun v q hv hq => ?_, fun v q q' hv hq hq' he => ?_⟩, fun k hk => ?_, fun k hk => ?_, fun k hk => ?_, fun k hk => ?_, fun k hk => ?_⟩
  · rw [s9] at hq ⊢
    by_cases c : v < sn S 0
    · exact (t.1 v q c hq).cg (ot v q c (by omega)) (Nat.le_refl _)
    · exact (nt v (by omega) hv).1 q hq
  · rw [s9] at hq hq'
    by_cases c : v < sn S 0
    · rw [sn.cg (ot v q c (by omega)), sn.cg (ot v q' c (by omega))] at he
      exact t.2 v q q' c hq hq' he
    · exact (nt v (by omega) hv).2 q q' hq hq' he
  · by_cases c : k < sn S 1
    · have := pp k c
      have o0 : S' (113 + 6 * k) = S (113 + 6 * k) := op k 0 c (by decide)
      have o1 := op k 1 c (by decide)
      have o2 := op k 2 c (by decide)
      refine ⟨?_, this.2.1.cg (op k 3 c (by decide)) (Nat.le_refl _), this.2.2.1.cg (op k 4 c (by decide)) (Nat.le_refl _), this.2.2.2.cg (op k 5 c (by decide)) (Nat.le_refl _)⟩
      rcases this.1 with ⟨a1, a2, a3⟩ | ⟨a1, a2, a3, a4⟩
      · exact Or.inl ⟨a1.cg o0 g0, by rw [o1]; exact a2, by rw [o2]; exact a3⟩
      · exact Or.inr ⟨by rw [o0]; exact a1, a2.cg o1 g0, by rw [s8]; exact a3.cg o2 (Nat.le_refl _), by rw [s8, sn.cg o2]; exact a4⟩
    · have := np k (by omega) hk
      exact ⟨Or.inl this.1, this.2⟩
  · by_cases c : k < sn S 2
    · have := f k c
      exact ⟨this.1.cg (of k 0 c (by decide)) g0, by rw [s9]; exact this.2.cg (of k 1 c (by decide)) (Nat.le_refl _)⟩
    · rw [s9]; exact nf k (by omega) hk
  · by_cases c : k < sn S 3
    · have := r k c
      have o0 : S' (177 + 3 * k) = S (177 + 3 * k) := or k 0 c (by decide)
      have o1 := or k 1 c (by decide)
      have o2 := or k 2 c (by decide)
      exact ⟨this.1.cg o0 g0, this.2.1.cg o1 g0, this.2.2.1.cg o2 (Nat.le_refl _), by rw [sn.cg o2]; exact this.2.2.2.1, by rw [sn.cg o0, sn.cg o1]; exact this.2.2.2.2⟩
    · exact nr k (by omega) hk
  · by_cases c : k < sn S 4
    · have := dd k c
      have o0 : S' (213 + 7 * k) = S (213 + 7 * k) := od k 0 c (by decide)
      have o1 := od k 1 c (by decide)
      have o2 := od k 2 c (by decide)
      have o4 := od k 4 c (by decide)
      have o5 := od k 5 c (by decide)
      rw [s9]
      exact ⟨this.1.cg o0 g1, this.2.1.cg o1 g1, this.2.2.1.cg o2 (Nat.le_refl _), this.2.2.2.1.cg (od k 3 c (by decide)) g0, this.2.2.2.2.1.cg o4 (Nat.le_refl _), this.2.2.2.2.2.1.cg o5 (Nat.le_refl _), by rw [sn.cg o2]; exact this.2.2.2.2.2.2.1, by rw [sn.cg o0, sn.cg o1]; exact this.2.2.2.2.2.2.2.1, by rw [sn.cg o4, sn.cg o5]; exact this.2.2.2.2.2.2.2.2⟩
    · rw [s9]; exact nd k (by omega) hk
  · by_cases c : k < sn S 5
    · have := kk k c
      have o0 : S' (269 + 5 * k) = S (269 + 5 * k) := ok k 0 c (by decide)
      have o2 := ok k 2 c (by decide)
      have o3 := ok k 3 c (by decide)
      have o4 := ok k 4 c (by decide)
      rw [s9, s8]
      refine ⟨this.1.cg o0 g0, this.2.1.cg (ok k 1 c (by decide)) (Nat.le_refl _), ?_, ?_⟩
      · rcases this.2.2.1 with a | a
        · exact Or.inl (by rw [o2]; exact a)
        · exact Or.inr (a.cg o2 (Nat.le_refl _))
      · rcases this.2.2.2 with ⟨a, b⟩ | ⟨a, b⟩
        · exact Or.inl ⟨by rw [o3]; exact a, by rw [o4]; exact b⟩
        · exact Or.inr ⟨a.cg o3 g1, b.cg o4 (Nat.le_refl _)⟩
    · have := nk k (by omega) hk
      rw [s9]
      exact ⟨this.1, this.2.1, this.2.2.1, Or.inl this.2.2.2⟩
/-- what a line of the country keeps -/
def KP (S S' : Nat → Int32) : Prop := S' 6 = S 6 ∧ S' 7 = S 7 ∧ ∀ i, 709 ≤ i → S' i = S i
theorem KP.tr {S S' S'' : Nat → Int32} (h : KP S S') (g : KP S' S'') : KP S S'' := ⟨g.1.trans h.1, g.2.1.trans h.2.1, fun i hi => (g.2.2 i hi).trans (h.2.2 i hi)⟩
def OKS (B : Nat) (S S' : Nat → Int32) : Prop := Inv B S' ∧ Str S' ∧ KP S S'
theorem Str.cg {S S' : Nat → Int32} (h : Str S) (e8 : S' 8 = S 8) (hp : ∀ k, k < sn S' 1 → S' (113 + 6 * k) = -1 → k < sn S 1 ∧ S' (113 + 6 * k) = S (113 + 6 * k) ∧ S' (113 + 6 * k + 2) = S (113 + 6 * k + 2)) : Str S' := fun k hk hw => by
  obtain ⟨h1, h2, h3⟩ := hp k hk hw
  rw [sn.cg e8, sn.cg h3]
  exact h k h1 (by rw [← h2]; exact hw)
theorem isN_nI {S : Nat → Int32} {j a m : Nat} (e : S j = nI a) (h : a < m) (hm : m ≤ 100000) : isN S j m := by
  unfold isN sn
  rw [e, nI_clamp (by omega)]
  exact ⟨rfl, h⟩
theorem sn_nI {S : Nat → Int32} {j a : Nat} (e : S j = nI a) (h : a < 100000) : sn S j = a := by unfold sn; rw [e, nI_clamp (by omega)]
section
variable {B : Nat} {S : Nat → Int32}
theorem Inv.n0 (h : Inv B S) : isN S 0 7 := h.1.1
theorem Inv.n1 (h : Inv B S) : isN S 1 9 := h.1.2.1
theorem Inv.n2 (h : Inv B S) : isN S 2 9 := h.1.2.2.1
theorem Inv.n3 (h : Inv B S) : isN S 3 13 := h.1.2.2.2.1
theorem Inv.n4 (h : Inv B S) : isN S 4 9 := h.1.2.2.2.2.1
theorem Inv.n5 (h : Inv B S) : isN S 5 9 := h.1.2.2.2.2.2.1
theorem Inv.n6 (h : Inv B S) : isN S 6 13 := h.1.2.2.2.2.2.2.1
/-- nothing that counts has changed -/
theorem OKS.same (hI : Inv B S) (hS : Str S) {S' : Nat → Int32} (e : ∀ i, i ≠ 10 → i ≠ 15 → S' i = S i) : OKS B S S' := by
  have b0 := hI.b0; have b1 := hI.b1; have b2 := hI.b2; have b3 := hI.b3; have b4 := hI.b4; have b5 := hI.b5
  have es : ∀ i, i ≠ 10 → i ≠ 15 → sn S' i = sn S i := fun i h1 h2 => sn.cg (e i h1 h2)
  refine ⟨hI.grow (hI.n0.cg (e _ (by decide) (by decide)) (Nat.le_refl _)) (hI.n1.cg (e _ (by decide) (by decide)) (Nat.le_refl _)) (hI.n2.cg (e _ (by decide) (by decide)) (Nat.le_refl _)) (hI.n3.cg (e _ (by decide) (by decide)) (Nat.le_refl _)) (hI.n4.cg (e _ (by decide) (by decide)) (Nat.le_refl _)) (hI.n5.cg (e _ (by decide) (by decide)) (Nat.le_refl _)) (Nat.le_of_eq (es 0 (by decide) (by decide)).symm) (Nat.le_of_eq (es 1 (by decide) (by decide)).symm) (hI.n6.cg (e _ (by decide) (by decide)) (Nat.le_refl _)) (e _ (by decide) (by decide)) (e _ (by decide) (by decide)) (e _ (by decide) (by decide)) (e _ (by decide) (by decide)) (fun v q _ _ => e _ (by omega) (by omega)) (fun k j _ _ => e _ (by omega) (by omega)) (fun k j _ _ => e _ (by omega) (by omega)) (fun k j _ _ => e _ (by omega) (by omega)) (fun k j _ _ => e _ (by omega) (by omega)) (fun k j _ _ => e _ (by omega) (by omega)) (fun v h1 h2 => ?_) (fun v h1 h2 => ?_) (fun v h1 h2 => ?_) (fun v h1 h2 => ?_) (fun v h1 h2 => ?_) (fun v h1 h2 => ?_), hS.cg (e _ (by decide) (by decide)) (fun k hk _ => ?_), e _ (by decide) (by decide), e _ (by decide) (by decide), fun i hi => e i (by omega) (by omega)⟩
  · rw [es 0 (by decide) (by decide)] at h2; omega
  · rw [es 1 (by decide) (by decide)] at h2; omega
  · rw [es 2 (by decide) (by decide)] at h2; omega
  · rw [es 3 (by decide) (by decide)] at h2; omega
  · rw [es 4 (by decide) (by decide)] at h2; omega
  · rw [es 5 (by decide) (by decide)] at h2; omega
  · rw [es 1 (by decide) (by decide)] at hk
    exact ⟨hk, e _ (by omega) (by omega), e _ (by omega) (by omega)⟩
/-- one more text -/
theorem Inv.up6 (hI : Inv B S) {x : Nat} (hx : x < 13) : Inv B (upd S 6 (nI x)) := by
  have b0 := hI.b0; have b1 := hI.b1; have b2 := hI.b2; have b3 := hI.b3; have b4 := hI.b4; have b5 := hI.b5
  have e : ∀ i, i ≠ 6 → upd S 6 (nI x) i = S i := fun i h => upd_ne h
  have e6 : upd S 6 (nI x) 6 = nI x := upd_self
  generalize upd S 6 (nI x) = S' at e e6
  have es : ∀ i, i ≠ 6 → sn S' i = sn S i := fun i h1 => sn.cg (e i h1)
  refine hI.grow (hI.n0.cg (e _ (by decide)) (Nat.le_refl _)) (hI.n1.cg (e _ (by decide)) (Nat.le_refl _)) (hI.n2.cg (e _ (by decide)) (Nat.le_refl _)) (hI.n3.cg (e _ (by decide)) (Nat.le_refl _)) (hI.n4.cg (e _ (by decide)) (Nat.le_refl _)) (hI.n5.cg (e _ (by decide)) (Nat.le_refl _)) (Nat.le_of_eq (es 0 (by decide)).symm) (Nat.le_of_eq (es 1 (by decide)).symm) (isN_nI e6 hx (by decide)) (e _ (by decide)) (e _ (by decide)) (e _ (by decide)) (e _ (by decide)) (fun v q _ _ => e _ (by omega)) (fun k j _ _ => e _ (by omega)) (fun k j _ _ => e _ (by omega)) (fun k j _ _ => e _ (by omega)) (fun k j _ _ => e _ (by omega)) (fun k j _ _ => e _ (by omega)) (fun v h1 h2 => ?_) (fun v h1 h2 => ?_) (fun v h1 h2 => ?_) (fun v h1 h2 => ?_) (fun v h1 h2 => ?_) (fun v h1 h2 => ?_)
  · rw [es 0 (by decide)] at h2; omega
  · rw [es 1 (by decide)] at h2; omega
  · rw [es 2 (by decide)] at h2; omega
  · rw [es 3 (by decide)] at h2; omega
  · rw [es 4 (by decide)] at h2; omega
  · rw [es 5 (by decide)] at h2; omega
end
