/-! A DAWN MORE: whole (made by wip/whole/gen67.py) -/
/-- numbers that a dawn leaves -/
def kqI (i : Nat) : Prop := i ≠ 8 ∧ (i < 16 ∨ 161 ≤ i) ∧ kpI i
theorem dw2_inv {B : Nat} {S : Nat → Int32} (hI : Inv B S) (hs : Str S) (hB : B + 1 ≤ 200000) : Inv (B + 1) (dw2 S) ∧ ∀ i, (i < 16 ∨ 113 ≤ i) → dw2 S i = tmS S i := by
  have h1 := hI.tmI hs hB
  unfold dw2
  split
  · exact mpA_inv h1 _ (Nat.le_refl _)
  · exact ⟨h1, fun _ _ => rfl⟩
theorem dw3_inv {B : Nat} {S : Nat → Int32} (hI : Inv B S) (hs : Str S) (hB : B + 1 ≤ 200000) : Inv (B + 1) (dw3 S) ∧ (∀ i, (i < 16 ∨ 161 ≤ i) → dw3 S i = tmS S i) ∧ Str (dw3 S) := by
  obtain ⟨h1, h2⟩ := dw2_inv hI hs hB
  obtain ⟨g1, g2⟩ := arA_inv h1 _ (Nat.le_refl _)
  refine ⟨g1, fun i hi => (g2 i (by omega)).trans (h2 i (by omega)), fun k hk hw => ?_⟩
  have hk : k < sn (dw3 S) 1 := hk
  unfold dw3 at hk
  rw [sn_eq (g2 1 (by omega))] at hk
  have e8 : sn (dw3 S) 8 = sn (dw2 S) 8 := sn_eq (g2 8 (by omega))
  rw [e8]
  exact (arA_str h1 _ (Nat.le_refl _) k).1 hk hw
theorem dw4_inv {B : Nat} {S : Nat → Int32} (hI : Inv B S) (hs : Str S) (hB : B + 1 ≤ 200000) : Inv (B + 1) (dw4 S).1 ∧ (dw4 S).2 ≤ 64 ∧ ∀ i, kpI i → (dw4 S).1 i = dw3 S i := by
  obtain ⟨h1, h2, h3⟩ := dw3_inv hI hs hB
  have b1 := h1.b1
  obtain ⟨g1, g2, g3⟩ := lvL_inv h1 _ (Nat.le_refl _)
  exact ⟨g1, Nat.le_trans g2 (by omega), g3⟩
theorem kp5 {i : Nat} (h : kpI i) : i ≠ 14 ∧ (i < 309 ∨ 709 ≤ i) ∧ (i < 113 ∨ 161 ≤ i ∨ (i - 113) % 6 ≠ 5) := by unfold kpI at h; omega
theorem dw5_inv {B : Nat} {S : Nat → Int32} (hI : Inv B S) (hs : Str S) (hB : B + 1 ≤ 200000) : Inv (B + 1) (dw5 S).1 ∧ ∀ i, kpI i → (dw5 S).1 i = dw3 S i := by
  obtain ⟨h1, h2, h3⟩ := dw4_inv hI hs hB
  have g := tkA_inv h1 (tl := tlF (dw4 S).1) (F := sn (dw4 S).1 2) h1.b2 (sn (dw4 S).1 1) (Nat.le_refl _)
  unfold dw5
  generalize tkA (tlF (dw4 S).1) (sn (dw4 S).1 2) (dw4 S).1 (sn (dw4 S).1 1) = T at g
  exact ⟨g.1, fun i hi => (g.2 i (kp5 hi)).trans (h3 i hi)⟩
theorem dw6_inv {B : Nat} {S : Nat → Int32} (hI : Inv B S) (hs : Str S) (hB : B + 1 ≤ 200000) : Inv (B + 1) (dw6 S) ∧ Str (dw6 S) ∧ ∀ i, kqI i → dw6 S i = S i := by
  obtain ⟨a1, a2, a3⟩ := dw3_inv hI hs hB
  obtain ⟨h1, h3⟩ := dw5_inv hI hs hB
  obtain ⟨g1, g2⟩ := stA_inv h1 _ (Nat.le_refl _)
  have hk : ∀ i, kpI i → dw6 S i = dw3 S i := fun i hi => (g2 i hi).trans (h3 i hi)
  refine ⟨g1, ?_, fun i hi => ?_⟩
  · intro k h w
    have b1 := a1.b1
    rw [sn_eq (hk 1 (by unfold kpI; omega))] at h
    rw [hk _ (by unfold kpI; omega)] at w
    rw [sn_eq (hk 8 (by unfold kpI; omega)), sn_eq (hk (113 + 6 * k + 2) (by unfold kpI; omega))]
    exact a3 k h w
  · rw [hk i hi.2.2, a2 i hi.2.1, tmS_ne hi.1]
/-- the page of the hour -/
theorem dw_k7 {i : Nat} (h : i = 7 ∨ 709 ≤ i) : kqI i := by unfold kqI kpI; omega
theorem s_25 {X : Nat × (Nat → Int32)} {d : Nat} {p : Nat → Nat} {sg : Mg} {B : Nat} {S : Nat → Int32} (hI : Inv B S) (hL : cwL 250 sg S) (hD : cwD 200 sg S) (hs : Str S) (hW : LW S sg) (hB : B + 1 ≤ 200000) : gF X (d + 7) 25 [vR 6] p sg (fun r => ∃ s, (DF sg s ∧ s 6 4 = sg 6 4 + nI (dwN S) ∧ CS s (dw6 S)) ∧ r = gR0 p s) := by
  have b8 := hI.b8
  have h1 := hI.tmI hs hB
  obtain ⟨h2, k2⟩ := dw2_inv hI hs hB
  obtain ⟨h3, k3, _⟩ := dw3_inv hI hs hB
  obtain ⟨h4, _, k4⟩ := dw4_inv hI hs hB
  obtain ⟨h5, k5⟩ := dw5_inv hI hs hB
  refine g_in (cd := k_25) (nL := 2) (rc := 3) rfl (g_A (a := 6) (kd := 0) (n := 2) rfl (by decide)) (g_c1 rfl) ?_
  show gW X (d + 6) k_25 0 [some (vR 6), none] [] p sg _
  refine g_pure 3 (i' := 3) (lv' := [some (vR 6), none]) (st' := [vR 250, vR 250]) rfl ?_
  refine g_getI rfl (g_A (a := 250) (kd := 0) (n := 6) rfl (by decide)) hL.f12 ?_
  refine g_pure 2 (i' := 6) (lv' := [some (vR 6), none]) (st' := [vI (S 8 + 1), vR 250]) rfl ?_
  refine g_putI rfl (g_A (a := 250) (kd := 0) (n := 6) rfl (by decide)) ?_
  have e8 : S 8 + 1 = nI (sn S 8 + 1) := by rw [hI.c8, nI_succ, sn_eq (S := S) rfl]
  rw [e8]
  have c1 : CS (mu sg 250 12 (nI (sn S 8 + 1))) (tmS S) := ⟨hL.wfld (Or.inl ⟨rfl, rfl⟩), hD.life (by decide) (by unfold noLand; omega)⟩
  have f1 : DG sg (mu sg 250 12 (nI (sn S 8 + 1))) := fun c hc => mu_ne (by omega)
  generalize mu sg 250 12 (nI (sn S 8 + 1)) = s1 at c1 f1
  refine g_pure 4 (i' := 11) (lv' := [some (vR 6), none]) (st' := [vR 250, vR 202]) rfl ?_
  refine g_getI rfl (g_A (a := 250) (kd := 0) (n := 6) rfl (by decide)) (c1.1.f12.trans h1.c8) ?_
  have t8 := h1.b8
  have t9 := h1.b9
  have hm := Nat.mod_lt (sn (tmS S) 8) (show 0 < sn (tmS S) 9 by omega)
  refine g_cV1 rfl (args := [vR 202, vI (nI (sn (tmS S) 8))]) (rest := []) rfl rfl rfl (s_37n (d := d + 4) h1 c1.1 c1.2 (by omega)) ?_
  have join : ∀ s2, DG sg s2 → CS s2 (dw2 S) → gW X (d + 6) k_25 16 [some (vR 6), none] [] p s2 (fun r => ∃ s, (DF sg s ∧ s 6 4 = sg 6 4 + nI (dwN S) ∧ CS s (dw6 S)) ∧ r = gR0 p s) := by
    intro s2 f2 c2
    refine g_pure 1 (i' := 17) (lv' := [some (vR 6), none]) (st' := [vR 6]) rfl ?_
    refine g_cV0E rfl (args := [vR 6]) (rest := []) rfl rfl rfl (s_28 (d := d + 5) h2 c2.1 c2.2) (fun s3 g3 => ?_)
    obtain ⟨f3, c3⟩ := g3
    have f3 := f2.tr f3
    have c3 : CS s3 (dw3 S) := c3
    have w3 : LW (dw3 S) s3 := (hW.df f3.df).ext (fun i hi => (k3 i (by omega)).trans (tmS_ne (by omega)))
    refine g_pure 2 (i' := 20) (lv' := [some (vR 6), some (vI (nI 0))]) (st' := []) rfl ?_
    refine l_25_20 h3 c3.1 c3.2 w3 (fun s4 g4 => ?_)
    obtain ⟨f4, n4, c4⟩ := g4
    have c4 : CS s4 (dw4 S).1 := c4
    have w4 : LW (dw4 S).1 s4 := (w3.df f4).ext (fun i hi => k4 i (by unfold kpI; omega))
    refine g_pure 1 (i' := 43) (lv' := [some (vR 6), some (vI (nI (sn (dw3 S) 1)))]) (st' := [vR 6]) rfl ?_
    refine g_cV0E rfl (args := [vR 6]) (rest := []) rfl rfl rfl (s_31 (d := d) h4 c4.1 c4.2 w4) (fun s5 g5 => ?_)
    obtain ⟨f5, n5, c5⟩ := g5
    have c5 : CS s5 (dw5 S).1 := c5
    refine g_pure 2 (i' := 46) (lv' := [some (vR 6), some (vI (nI 0))]) (st' := []) rfl ?_
    refine l_25_46 (z := none) h5 c5.1 c5.2 (fun s6 g6 => ?_)
    obtain ⟨f6, n6, c6⟩ := g6
    refine ⟨s6, ⟨((f3.df.tr f4).tr f5).tr f6, ?_, c6⟩, rfl⟩
    rw [n6, n5, n4, f3 6 (by omega), Int32.add_assoc, nI_add]
    rfl
  refine g_if1 (i' := 16) (P := ¬ sn (tmS S) 8 % sn (tmS S) 9 = 0) rfl rfl (g_neN rfl rfl (by omega) (by omega)) (fun h => ?_) (fun h => ?_)
  · refine join s1 f1 ?_
    unfold dw2
    rw [if_neg h]
    exact c1
  · have h := Decidable.not_not.mp h
    refine g_pure 1 (i' := 15) (lv' := [some (vR 6), none]) (st' := [vR 6]) rfl ?_
    refine g_cV0E rfl (args := [vR 6]) (rest := []) rfl rfl rfl (s_26 (d := d + 3) h1 c1.1 c1.2) (fun s2 g2 => ?_)
    refine join s2 (f1.tr g2.1) ?_
    unfold dw2
    rw [if_pos h]
    exact g2.2
