/-! ALL TALK: the class (made by wip/whole/gen61.py) -/
theorem b_31_50 {X : Nat × (Nat → Int32)} {d : Nat} {p : Nat → Nat} {sg : Mg} {Q : am_R → Prop} {B : Nat} {S : Nat → Int32} (hI : Inv B S) (hL : cwL 250 sg S) (hD : cwD 200 sg S) {n : Nat} {k : Nat} {z3 : Option AV} {z4 : Option AV} (u_n : n ≤ 8) (u_k : k ≤ 8)
    (o1 : (n ≤ k) → Q (gR0 p sg))
    (o2 : (¬ (n ≤ k)) → gW X (d + 5) k_31 55 [some (vR 6), some (vI (nI n)), some (vI (nI k)), some (vI 0), z4] [] p sg Q) :
    gW X (d + 5) k_31 50 [some (vR 6), some (vI (nI n)), some (vI (nI k)), z3, z4] [] p sg Q := by
  have b0 := hI.b0; have b1 := hI.b1; have b2 := hI.b2; have b3 := hI.b3; have b4 := hI.b4; have b5 := hI.b5; have b6 := hI.b6; have b7 := hI.b7; have b8 := hI.b8; have b9 := hI.b9; have b14 := hI.b14
  refine g_pure 2 (i' := 52) (lv' := [some (vR 6), some (vI (nI n)), some (vI (nI k)), z3, z4]) (st' := [vI (nI n), vI (nI k)]) rfl ?_
  refine g_if2 (i' := 83) (P := n ≤ k) rfl rfl (g_geN (show nI k = nI k from (rfl : nI k = nI k)) (show nI n = nI n from (rfl : nI n = nI n)) (by omega) (by omega)) (fun h1 => ?_) (fun h1 => ?_)
  · refine g_vret rfl ?_
    exact o1 h1
  · refine g_pure 2 (i' := 55) (lv' := [some (vR 6), some (vI (nI n)), some (vI (nI k)), some (vI 0), z4]) (st' := []) rfl ?_
    exact o2 h1

theorem b_31_55 {X : Nat × (Nat → Int32)} {d : Nat} {p : Nat → Nat} {sg : Mg} {Q : am_R → Prop} {B : Nat} {S : Nat → Int32} (hI : Inv B S) (hL : cwL 250 sg S) (hD : cwD 200 sg S) {n : Nat} {k : Nat} {f : Nat} {z4 : Option AV} (u_n : n ≤ 8) (u_k : k ≤ 7) (u_f : f ≤ 8) (q1 : k < sn S 1)
    (o1 : (sn S 2 ≤ f) → gW X (d + 5) k_31 50 [some (vR 6), some (vI (nI n)), some (vI (nI (k + 1))), some (vI (nI f)), z4] [] p sg Q)
    (o2 : (¬ (sn S 2 ≤ f)) → (S (113 + 6 * k) = (-1)) → gW X (d + 5) k_31 50 [some (vR 6), some (vI (nI n)), some (vI (nI (k + 1))), some (vI (nI f)), z4] [] p sg Q)
    (o3 : (¬ (sn S 2 ≤ f)) → (¬ (S (113 + 6 * k) = (-1))) → ((sn S (113 + 6 * k + 5)).testBit f = true) → gW X (d + 5) k_31 55 [some (vR 6), some (vI (nI n)), some (vI (nI k)), some (vI (nI (f + 1))), z4] [] p sg Q)
    (o4 : (¬ (sn S 2 ≤ f)) → (¬ (S (113 + 6 * k) = (-1))) → (¬ ((sn S (113 + 6 * k + 5)).testBit f = true)) → gW X (d + 5) k_31 75 [some (vR 6), some (vI (nI n)), some (vI (nI k)), some (vI (nI f)), z4] [] p sg Q) :
    gW X (d + 5) k_31 55 [some (vR 6), some (vI (nI n)), some (vI (nI k)), some (vI (nI f)), z4] [] p sg Q := by
  have b0 := hI.b0; have b1 := hI.b1; have b2 := hI.b2; have b3 := hI.b3; have b4 := hI.b4; have b5 := hI.b5; have b6 := hI.b6; have b7 := hI.b7; have b8 := hI.b8; have b9 := hI.b9; have b14 := hI.b14
  refine g_pure 5 (i' := 60) (lv' := [some (vR 6), some (vI (nI n)), some (vI (nI k)), some (vI (nI f)), z4]) (st' := [vI 2, vR 203, vI (nI f)]) rfl ?_
  refine g_ald rfl (g_A (a := 203) (kd := 1) (n := 6) rfl (by decide)) (by decide) (show 2 = nI 2 from (show (2 : Int32) = nI 2 from rfl)) (by decide) (show _ = S 2 from (hD.cnt (by decide))) ?_
  refine g_if2 (i' := 81) (P := sn S 2 ≤ f) rfl rfl (g_geN (show nI f = nI f from (rfl : nI f = nI f)) (show S 2 = nI (sn S 2) from (hI.c2)) (by omega) (by omega)) (fun h1 => ?_) (fun h1 => ?_)
  · refine g_pure 2 (i' := 50) (lv' := [some (vR 6), some (vI (nI n)), some (vI (nI k + 1)), some (vI (nI f)), z4]) (st' := []) rfl ?_
    refine gW_eq (lv' := [some (vR 6), some (vI (nI n)), some (vI (nI (k + 1))), some (vI (nI f)), z4]) (st' := []) (by rw [(show (nI k + 1) = nI (k + 1) from ((g_add (rfl : nI k = nI k) (show (1 : Int32) = nI 1 from rfl))).trans (congrArg nI (by omega)))]) rfl rfl ?_
    exact o1 h1
  · refine g_pure 4 (i' := 66) (lv' := [some (vR 6), some (vI (nI n)), some (vI (nI k)), some (vI (nI f)), z4]) (st' := [vI (nI k), vR 252]) rfl ?_
    refine g_ald rfl (g_A (a := 252) (kd := 1) (n := 8) rfl (by decide)) (by decide) (show nI k = nI k from (rfl : nI k = nI k)) (by omega) (show _ = S (113 + 6 * k) from (hL.per 0 (by decide) (by omega))) ?_
    refine g_pure 1 (i' := 68) (lv' := [some (vR 6), some (vI (nI n)), some (vI (nI k)), some (vI (nI f)), z4]) (st' := [vI (-1), vI (S (113 + 6 * k))]) rfl ?_
    refine g_if2 (i' := 81) (P := S (113 + 6 * k) = (-1)) rfl rfl Iff.rfl (fun h2 => ?_) (fun h2 => ?_)
    · refine g_pure 2 (i' := 50) (lv' := [some (vR 6), some (vI (nI n)), some (vI (nI k + 1)), some (vI (nI f)), z4]) (st' := []) rfl ?_
      refine gW_eq (lv' := [some (vR 6), some (vI (nI n)), some (vI (nI (k + 1))), some (vI (nI f)), z4]) (st' := []) (by rw [(show (nI k + 1) = nI (k + 1) from ((g_add (rfl : nI k = nI k) (show (1 : Int32) = nI 1 from rfl))).trans (congrArg nI (by omega)))]) rfl rfl ?_
      exact o2 h1 h2
    · refine g_pure 4 (i' := 73) (lv' := [some (vR 6), some (vI (nI n)), some (vI (nI k)), some (vI (nI f)), z4]) (st' := [vI (nI f), vI (nI k), vR 250]) rfl ?_
      refine g_cV1 rfl (args := [vR 250, vI (nI k), vI (nI f)]) (rest := []) rfl rfl rfl (s_58 (d := d + 4) hI hL hD (by omega) (by omega)) ?_
      refine g_if1 (i' := 79) (P := (sn S (113 + 6 * k + 5)).testBit f = true) rfl rfl g_neB (fun h3 => ?_) (fun h3 => ?_)
      · refine g_pure 2 (i' := 55) (lv' := [some (vR 6), some (vI (nI n)), some (vI (nI k)), some (vI (nI f + 1)), z4]) (st' := []) rfl ?_
        refine gW_eq (lv' := [some (vR 6), some (vI (nI n)), some (vI (nI k)), some (vI (nI (f + 1))), z4]) (st' := []) (by rw [(show (nI f + 1) = nI (f + 1) from ((g_add (rfl : nI f = nI f) (show (1 : Int32) = nI 1 from rfl))).trans (congrArg nI (by omega)))]) rfl rfl ?_
        exact o3 h1 h2 h3
      · exact o4 h1 h2 h3

def tkF (tl : Nat → Nat) (k : Nat) (S : Nat → Int32) : Nat → (Nat → Int32) × Nat
  | 0 => (S, 0)
  | f + 1 => (heS (tkF tl k S f).1 tl k f, (tkF tl k S f).2 + heN (tkF tl k S f).1 tl k f)
def tkA (tl : Nat → Nat) (F : Nat) (S : Nat → Int32) : Nat → (Nat → Int32) × Nat
  | 0 => (S, 0)
  | k + 1 => if (tkA tl F S k).1 (113 + 6 * k) = -1 then tkA tl F S k else ((tkF tl k (tkA tl F S k).1 F).1, (tkA tl F S k).2 + (tkF tl k (tkA tl F S k).1 F).2)
theorem heS_ne {S : Nat → Int32} {tl : Nat → Nat} {k f i : Nat} (h : i ≠ 14 ∧ (i < 309 ∨ 709 ≤ i) ∧ i ≠ 113 + 6 * k + 5) : heS S tl k f i = S i := by
  unfold heS
  split
  · exact lrS_ne h
  · rfl
theorem Inv.heI {B : Nat} {S : Nat → Int32} (hI : Inv B S) {tl : Nat → Nat} {k f : Nat} (hk : k < sn S 1) (hf : f ≤ 7) : Inv B (heS S tl k f) := by
  unfold heS
  split
  · exact hI.lr hk hf
  · exact hI
theorem he_known {S : Nat → Int32} {tl : Nat → Nat} {k f : Nat} (h : (sn S (113 + 6 * k + 5)).testBit f = true) : heS S tl k f = S ∧ heN S tl k f = 0 := by
  unfold heS heN
  constructor
  · split
    · exact lrS_1 h
    · rfl
  · by_cases h9 : teN S tl k f < sn S 1
    · rw [if_pos h9, if_pos h]
    · rw [if_neg h9]
theorem tkF_inv {B : Nat} {S : Nat → Int32} (hI : Inv B S) {tl : Nat → Nat} {k : Nat} (hk : k < sn S 1) : ∀ f, f ≤ 8 → Inv B (tkF tl k S f).1 ∧ ∀ i, i ≠ 14 ∧ (i < 309 ∨ 709 ≤ i) ∧ i ≠ 113 + 6 * k + 5 → (tkF tl k S f).1 i = S i
  | 0, _ => ⟨hI, fun _ _ => rfl⟩
  | f + 1, h => by
    have b1 := hI.b1
    obtain ⟨h1, h3⟩ := tkF_inv hI (tl := tl) hk f (by omega)
    refine ⟨h1.heI (by rw [sn_eq (h3 1 (by omega))]; exact hk) (by omega), fun i hi => ?_⟩
    show heS (tkF tl k S f).1 tl k f i = S i
    rw [heS_ne hi, h3 i hi]
/-- one hears all facts -/
theorem l_31_55 {X : Nat × (Nat → Int32)} {d : Nat} {p : Nat → Nat} {sg : Mg} {B : Nat} {S : Nat → Int32} (hI : Inv B S) (hL : cwL 250 sg S) (hD : cwD 200 sg S) {Q : am_R → Prop} {tl : Nat → Nat} {n k : Nat} {z4 : Option AV} (hn : n ≤ 8) (hk : k < sn S 1) (hw : ¬ S (113 + 6 * k) = -1) (htl : ∀ j, j < sn S 1 → sg 7 j = nI (tl j) ∧ tl j < 256)
    (x : ∀ s z3 z4, (DF sg s ∧ s 7 = sg 7 ∧ s 6 4 = sg 6 4 + nI (tkF tl k S (sn S 2)).2 ∧ CS s (tkF tl k S (sn S 2)).1) → gW X (d + 5) k_31 50 [some (vR 6), some (vI (nI n)), some (vI (nI (k + 1))), z3, z4] [] p s Q) :
    gW X (d + 5) k_31 55 [some (vR 6), some (vI (nI n)), some (vI (nI k)), some (vI (nI 0)), z4] [] p sg Q := by
  have b1 := hI.b1; have b2 := hI.b2
  have key := g_upI (P := fun f => ∀ s, (DF sg s ∧ s 7 = sg 7 ∧ s 6 4 = sg 6 4 + nI (tkF tl k S f).2 ∧ CS s (tkF tl k S f).1) → gW X (d + 5) k_31 55 [some (vR 6), some (vI (nI n)), some (vI (nI k)), some (vI (nI f)), z4] [] p s Q) (I := fun _ => True) (n := sn S 2) (a := 0) (by omega) trivial ?_ ?_
  · refine key sg ⟨DF.rf _, rfl, ?_, hL, hD⟩
    show sg 6 4 = sg 6 4 + 0
    rw [Int32.add_zero]
  · intro f _ hf _ ih s hs
    have ih := ih trivial
    obtain ⟨hT, hT2⟩ := tkF_inv hI (tl := tl) hk f (by omega)
    rw [show tkF tl k S (f + 1) = (heS (tkF tl k S f).1 tl k f, (tkF tl k S f).2 + heN (tkF tl k S f).1 tl k f) from rfl] at ih
    have t1 : sn (tkF tl k S f).1 1 = sn S 1 := sn_eq (hT2 1 (by omega))
    have t2 : sn (tkF tl k S f).1 2 = sn S 2 := sn_eq (hT2 2 (by omega))
    have tw : (tkF tl k S f).1 (113 + 6 * k) = S (113 + 6 * k) := hT2 _ (by omega)
    generalize tkF tl k S f = T at hs hT t1 t2 tw ih
    obtain ⟨s1, s2, s3, s4⟩ := hs
    refine b_31_55 hT s4.1 s4.2 hn (by omega) (by omega) (by omega) (fun h => by omega) (fun _ h => absurd (tw ▸ h) hw) (fun _ _ h => ?_) (fun _ _ h => ?_)
    · obtain ⟨e1, e2⟩ := he_known (tl := tl) h
      rw [e1, e2, Nat.add_zero] at ih
      exact ih s ⟨s1, s2, s3, s4⟩
    · refine g_pure 3 (i' := 78) (lv' := [some (vR 6), some (vI (nI n)), some (vI (nI k)), some (vI (nI f)), z4]) (st' := [vI (nI f), vI (nI k), vR 6]) rfl ?_
      refine g_cV0E rfl (args := [vR 6, vI (nI k), vI (nI f)]) (rest := []) rfl rfl rfl (s_32 (d := d + 2) (tl := tl) hT s4.1 s4.2 (by omega) (by omega) (fun j hj => by rw [s2]; exact htl j (by omega))) (fun s5 h5 => ?_)
      refine g_pure 2 (i' := 55) (lv' := [some (vR 6), some (vI (nI n)), some (vI (nI k)), some (vI (nI f + 1)), z4]) (st' := []) rfl ?_
      refine gW_eq (lv' := [some (vR 6), some (vI (nI n)), some (vI (nI k)), some (vI (nI (f + 1))), z4]) (by rw [nI_succ]) rfl rfl ?_
      refine ih s5 ⟨s1.tr h5.1, h5.2.1.trans s2, ?_, h5.2.2.2⟩
      rw [h5.2.2.1, s3, Int32.add_assoc, nI_add]
  · intro _ s hs
    obtain ⟨hT, hT2⟩ := tkF_inv hI (tl := tl) hk (sn S 2) (by omega)
    have t1 : sn (tkF tl k S (sn S 2)).1 1 = sn S 1 := sn_eq (hT2 1 (by omega))
    have t2 : sn (tkF tl k S (sn S 2)).1 2 = sn S 2 := sn_eq (hT2 2 (by omega))
    exact b_31_55 hT hs.2.2.2.1 hs.2.2.2.2 hn (by omega) (by omega) (by omega) (fun _ => x s _ _ hs) (fun h => by omega) (fun h => by omega) (fun h => by omega)

theorem tkA_inv {B : Nat} {S : Nat → Int32} (hI : Inv B S) {tl : Nat → Nat} {F : Nat} (hF : F ≤ 8) : ∀ k, k ≤ sn S 1 → Inv B (tkA tl F S k).1 ∧ ∀ i, i ≠ 14 ∧ (i < 309 ∨ 709 ≤ i) ∧ (i < 113 ∨ 161 ≤ i ∨ (i - 113) % 6 ≠ 5) → (tkA tl F S k).1 i = S i
  | 0, _ => ⟨hI, fun _ _ => rfl⟩
  | k + 1, h => by
    have b1 := hI.b1
    obtain ⟨h1, h3⟩ := tkA_inv hI (tl := tl) hF k (by omega)
    unfold tkA
    split
    · exact ⟨h1, h3⟩
    · obtain ⟨h4, h5⟩ := tkF_inv h1 (tl := tl) (k := k) (by rw [sn_eq (h3 1 (by omega))]; omega) F hF
      exact ⟨h4, fun i hi => by dsimp only; rw [h5 i (by omega), h3 i hi]⟩
theorem tlF_lt {B : Nat} {S : Nat → Int32} (hI : Inv B S) {j : Nat} (hj : j < sn S 1) : tlF S j < 256 := by
  have h := (hI.per hj).2.2.2.2
  unfold tlF
  split
  · omega
  · split <;> omega
/-- the class: all talk -/
theorem s_31 {X : Nat × (Nat → Int32)} {d : Nat} {p : Nat → Nat} {sg : Mg} {B : Nat} {S : Nat → Int32} (hI : Inv B S) (hL : cwL 250 sg S) (hD : cwD 200 sg S) (hW : LW S sg) : gF X (d + 6) 31 [vR 6] p sg (fun r => ∃ s, (DF sg s ∧ s 6 4 = sg 6 4 + nI (tkA (tlF S) (sn S 2) S (sn S 1)).2 ∧ CS s (tkA (tlF S) (sn S 2) S (sn S 1)).1) ∧ r = gR0 p s) := by
  have b1 := hI.b1; have b2 := hI.b2
  refine g_in (cd := k_31) (nL := 5) (rc := 3) rfl (g_A (a := 6) (kd := 0) (n := 2) rfl (by decide)) (g_c1 rfl) (b_31_0 hI hL hD ?_)
  rw [hI.c1]
  refine l_31_8 hI hL hD hW (fun s0 z3 z4 hs0 h7 => ?_)
  have hL2 : cwL 250 s0 S := hL.eqc (fun c c1 c2 => hs0 c (by omega) (by omega) (by omega))
  have hD2 : cwD 200 s0 S := hD.eqc (fun c c1 => hs0 c (by omega) (by omega) (by omega))
  have d0 : DF sg s0 := fun c _ c2 c3 c4 _ => hs0 c c2 c3 c4
  have e6 : s0 6 = sg 6 := hs0 6 (by decide) (by decide) (by decide)
  refine g_upI (P := fun k => ∀ s z3 z4, (DF sg s ∧ s 7 = s0 7 ∧ s 6 4 = sg 6 4 + nI (tkA (tlF S) (sn S 2) S k).2 ∧ CS s (tkA (tlF S) (sn S 2) S k).1) → gW X (d + 5) k_31 50 [some (vR 6), some (vI (nI (sn S 1))), some (vI (nI k)), z3, z4] [] p s _) (I := fun _ => True) (n := sn S 1) (a := 0) (by omega) trivial (fun k _ hk _ ih s z3 z4 hs => ?_) (fun _ s z3 z4 hs => ?_) s0 z3 z4 ⟨d0, rfl, ?_, hL2, hD2⟩
  · have ih := ih trivial
    obtain ⟨hT, hT2⟩ := tkA_inv hI (tl := tlF S) (F := sn S 2) (by omega) k (by omega)
    rw [show tkA (tlF S) (sn S 2) S (k + 1) = if (tkA (tlF S) (sn S 2) S k).1 (113 + 6 * k) = -1 then tkA (tlF S) (sn S 2) S k else ((tkF (tlF S) k (tkA (tlF S) (sn S 2) S k).1 (sn S 2)).1, (tkA (tlF S) (sn S 2) S k).2 + (tkF (tlF S) k (tkA (tlF S) (sn S 2) S k).1 (sn S 2)).2) from rfl] at ih
    have t1 : sn (tkA (tlF S) (sn S 2) S k).1 1 = sn S 1 := sn_eq (hT2 1 (by omega))
    have t2 : sn (tkA (tlF S) (sn S 2) S k).1 2 = sn S 2 := sn_eq (hT2 2 (by omega))
    generalize tkA (tlF S) (sn S 2) S k = T at hs hT t1 t2 ih
    obtain ⟨s1, s2, s3, s4⟩ := hs
    refine b_31_50 hT s4.1 s4.2 (by omega) (by omega) (fun h => by omega) (fun _ => ?_)
    by_cases hw : T.1 (113 + 6 * k) = -1
    · rw [if_pos hw] at ih
      by_cases h0 : sn S 2 = 0
      · exact b_31_55 hT s4.1 s4.2 (by omega) (by omega) (f := 0) (by omega) (by omega) (fun _ => ih s _ _ ⟨s1, s2, s3, s4⟩) (fun h => by omega) (fun h => by omega) (fun h => by omega)
      · exact b_31_55 hT s4.1 s4.2 (by omega) (by omega) (f := 0) (by omega) (by omega) (fun h => by omega) (fun _ _ => ih s _ _ ⟨s1, s2, s3, s4⟩) (fun _ h => absurd hw h) (fun _ h => absurd hw h)
    · rw [if_neg hw] at ih
      refine l_31_55 hT s4.1 s4.2 (tl := tlF S) (by omega) (by omega) hw (fun j hj => ?_) (fun s5 z3 z4 h5 => ?_)
      · rw [s2]
        exact ⟨h7 j (by omega), tlF_lt hI (by omega)⟩
      · rw [t2] at h5
        refine ih s5 z3 z4 ⟨s1.tr h5.1, h5.2.1.trans s2, ?_, h5.2.2.2⟩
        rw [h5.2.2.1, s3, Int32.add_assoc, nI_add]
  · obtain ⟨hT, hT2⟩ := tkA_inv hI (tl := tlF S) (F := sn S 2) (by omega) (sn S 1) (Nat.le_refl _)
    exact b_31_50 hT hs.2.2.2.1 hs.2.2.2.2 (by omega) (by omega) (fun _ => ⟨s, ⟨hs.1, hs.2.2.1, hs.2.2.2⟩, rfl⟩) (fun h => by omega)
  · rw [e6]
    show sg 6 4 = sg 6 4 + 0
    rw [Int32.add_zero]
