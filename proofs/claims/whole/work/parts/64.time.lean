/-! TIME GOES ON -/
/-- whoever is on a road is there later -/
def Str (S : Nat → Int32) : Prop := ∀ k, k < sn S 1 → S (113 + 6 * k) = -1 → sn S 8 < sn S (113 + 6 * k + 2)
def tmS (S : Nat → Int32) : Nat → Int32 := upd S 8 (nI (sn S 8 + 1))
theorem tmS_ne {S : Nat → Int32} {i : Nat} (h : i ≠ 8) : tmS S i = S i := upd_ne h
theorem tmS_8 {B : Nat} {S : Nat → Int32} (hI : Inv B S) : sn (tmS S) 8 = sn S 8 + 1 := sn_upd_self (by have := hI.b8; omega)
theorem Inv.tmI {B : Nat} {S : Nat → Int32} (hI : Inv B S) (hs : Str S) (hB : B + 1 ≤ 200000) : Inv (B + 1) (tmS S) := by
  have b1 := hI.b1; have b5 := hI.b5; have b8 := hI.B8
  have e8 := tmS_8 hI
  have ne : ∀ i, i ≠ 8 → tmS S i = S i := fun i h => tmS_ne h
  refine ⟨?_, InvT.ext hI (fun i h => ne i (by omega)), ?_, InvF.ext hI (fun i h => ne i (by omega)), InvR.ext hI (fun i h => ne i (by omega)), InvD.ext hI (fun i h => ne i (by omega)), ?_⟩
  · have hc := hI.1
    unfold InvC at hc ⊢
    rw [isN_eq (ne 0 (by decide)), isN_eq (ne 1 (by decide)), isN_eq (ne 2 (by decide)), isN_eq (ne 3 (by decide)), isN_eq (ne 4 (by decide)), isN_eq (ne 5 (by decide)), isN_eq (ne 6 (by decide)), isN_eq (ne 7 (by decide)), isN_eq (ne 9 (by decide)), sn_eq (ne 9 (by decide)), isN_eq (ne 14 (by decide))]
    exact ⟨hc.1, hc.2.1, hc.2.2.1, hc.2.2.2.1, hc.2.2.2.2.1, hc.2.2.2.2.2.1, hc.2.2.2.2.2.2.1, hc.2.2.2.2.2.2.2.1, ⟨isN_self (by omega) (by omega), hB⟩, hc.2.2.2.2.2.2.2.2.2.1, hc.2.2.2.2.2.2.2.2.2.2⟩
  · intro k hk
    rw [sn_eq (ne 1 (by decide))] at hk
    have h := hI.per hk
    have hst := hs k hk
    unfold Wh at h ⊢
    rw [e8, isN_eq (ne (113 + 6 * k) (by omega)), isN_eq (ne (113 + 6 * k + 1) (by omega)), isN_eq (ne (113 + 6 * k + 2) (by omega)), isN_eq (ne (113 + 6 * k + 3) (by omega)), isN_eq (ne (113 + 6 * k + 4) (by omega)), isN_eq (ne (113 + 6 * k + 5) (by omega)), ne (113 + 6 * k) (by omega), ne (113 + 6 * k + 1) (by omega), ne (113 + 6 * k + 2) (by omega), sn_eq (ne 0 (by omega)), sn_eq (ne (113 + 6 * k + 2) (by omega))]
    refine ⟨?_, h.2⟩
    rcases h.1 with h1 | h1
    · exact Or.inl h1
    · exact Or.inr ⟨h1.1, h1.2.1, ⟨h1.2.2.1.1, by have := h1.2.2.1.2; omega⟩, by have := hst h1.1; omega⟩
  · intro k hk
    rw [sn_eq (ne 5 (by decide))] at hk
    have h := hI.tas hk
    rw [e8, isN_eq (ne (269 + 5 * k) (by omega)), isN_eq (ne (269 + 5 * k + 1) (by omega)), isN_eq (ne (269 + 5 * k + 2) (by omega)), isN_eq (ne (269 + 5 * k + 3) (by omega)), isN_eq (ne (269 + 5 * k + 4) (by omega)), ne (269 + 5 * k + 2) (by omega), ne (269 + 5 * k + 3) (by omega), ne (269 + 5 * k + 4) (by omega), sn_eq (ne 0 (by omega)), sn_eq (ne 1 (by omega)), sn_eq (ne 9 (by omega))]
    refine ⟨h.1, h.2.1, h.2.2.1, ?_⟩
    rcases h.2.2.2 with h1 | h1
    · exact Or.inl h1
    · exact Or.inr ⟨h1.1, h1.2.1, by have := h1.2.2; omega⟩
