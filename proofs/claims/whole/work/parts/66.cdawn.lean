/-! A DAWN MORE: the class (made by wip/whole/gen66.py) -/
/-- all live the day -/
theorem l_25_20 {X : Nat × (Nat → Int32)} {d : Nat} {p : Nat → Nat} {sg : Mg} {B : Nat} {S : Nat → Int32} (hI : Inv B S) (hL : cwL 250 sg S) (hD : cwD 200 sg S) {Q : am_R → Prop} (hW : LW S sg)
    (x : ∀ s, (DF sg s ∧ s 6 4 = sg 6 4 + nI (lvL S (sn S 1)).2 ∧ CS s (lvL S (sn S 1)).1) → gW X (d + 6) k_25 42 [some (vR 6), some (vI (nI (sn S 1)))] [] p s Q) :
    gW X (d + 6) k_25 20 [some (vR 6), some (vI (nI 0))] [] p sg Q := by
  have b0 := hI.b0; have b1 := hI.b1
  have key := g_upI (P := fun k => ∀ s, (DF sg s ∧ s 6 4 = sg 6 4 + nI (lvL S k).2 ∧ CS s (lvL S k).1) → gW X (d + 6) k_25 20 [some (vR 6), some (vI (nI k))] [] p s Q) (I := fun _ => True) (n := sn S 1) (a := 0) (by omega) trivial ?_ ?_
  · refine key sg ⟨DF.rf _, ?_, hL, hD⟩
    show sg 6 4 = sg 6 4 + 0
    rw [Int32.add_zero]
  · intro k _ hk _ ih s hs
    have ih := ih trivial
    obtain ⟨hT, hT1, hT2⟩ := lvL_inv hI k (by omega)
    rw [show lvL S (k + 1) = if (lvL S k).1 (113 + 6 * k) = -1 then lvL S k else ((lvA (lvL S k).1 k (sn (lvL S k).1 (113 + 6 * k))).1, (lvL S k).2 + (lvA (lvL S k).1 k (sn (lvL S k).1 (113 + 6 * k))).2) from rfl] at ih
    have t1 : sn (lvL S k).1 1 = sn S 1 := sn_eq (hT2 1 (by unfold kpI; omega))
    have hWT : LW (lvL S k).1 s := (hW.df hs.1).ext (fun i hi => hT2 i (by unfold kpI; omega))
    generalize lvL S k = T at hs hT t1 ih hWT
    obtain ⟨s1, s3, s4⟩ := hs
    refine g_pure 5 (i' := 25) (lv' := [some (vR 6), some (vI (nI k))]) (st' := [vI 1, vR 203, vI (nI k)]) rfl ?_
    refine g_ald rfl (g_A (a := 203) (kd := 1) (n := 6) rfl (by decide)) (by decide) (show (1 : Int32) = nI 1 from rfl) (by decide) ((s4.2.cnt (by decide)).trans hT.c1) ?_
    refine g_if2 (i' := 42) (P := sn T.1 1 ≤ k) rfl rfl (g_geN rfl rfl (by omega) (by omega)) (fun h => by omega) (fun _ => ?_)
    refine g_pure 4 (i' := 31) (lv' := [some (vR 6), some (vI (nI k))]) (st' := [vI (nI k), vR 252]) rfl ?_
    refine g_ald (k := k) rfl (g_A (a := 252) (kd := 1) (n := 8) rfl (by decide)) (by decide) rfl (by omega) (s4.1.per 0 (by decide) (by omega)) ?_
    refine g_pure 1 (i' := 33) (lv' := [some (vR 6), some (vI (nI k))]) (st' := [vI (-1), vI (T.1 (113 + 6 * k + 0))]) rfl ?_
    refine g_if2 (i' := 40) (P := T.1 (113 + 6 * k) = -1) rfl rfl Iff.rfl (fun h => ?_) (fun h => ?_)
    · refine g_pure 2 (i' := 20) (lv' := [some (vR 6), some (vI (nI k + 1))]) (st' := []) rfl ?_
      refine gW_eq (lv' := [some (vR 6), some (vI (nI (k + 1)))]) (by rw [nI_succ]) rfl rfl ?_
      rw [if_pos h] at ih
      exact ih s ⟨s1, s3, s4⟩
    · rw [if_neg h] at ih
      have hw : isN T.1 (113 + 6 * k) (sn T.1 0) := by
        rcases (hT.per (show k < sn T.1 1 by omega)).1 with h9 | h9
        · exact h9.1
        · exact absurd h9.1 h
      have hE := hT.erI (k := k) (g := gnS T.1 k (sn T.1 (113 + 6 * k))) (by omega)
      refine g_pure 2 (i' := 36) (lv' := [some (vR 6), some (vI (nI k))]) (st' := [vI (nI k), vR 6]) rfl ?_
      refine g_cV0E rfl (args := [vR 6, vI (nI k)]) (rest := []) rfl rfl rfl (s_29 (d := d) hT s4.1 s4.2 hWT (by omega) hw.1 hw.2) (fun s5 h5 => ?_)
      refine g_pure 2 (i' := 39) (lv' := [some (vR 6), some (vI (nI k))]) (st' := [vI (nI k), vR 6]) rfl ?_
      refine g_cV0E rfl (args := [vR 6, vI (nI k)]) (rest := []) rfl rfl rfl (s_30 (d := d + 2) hE h5.2.2.1 h5.2.2.2 (by rw [sn_eq (erS_ne (by omega) (by omega) (by omega))]; omega) ((erS_ne (by omega) (by omega) (by omega)).trans hw.1) (by rw [sn_eq (S := T.1) (i := 0) (erS_ne (by omega) (by omega) (by omega))]; exact hw.2) rfl) (fun s6 h6 => ?_)
      refine g_pure 2 (i' := 20) (lv' := [some (vR 6), some (vI (nI k + 1))]) (st' := []) rfl ?_
      refine gW_eq (lv' := [some (vR 6), some (vI (nI (k + 1)))]) (by rw [nI_succ]) rfl rfl ?_
      refine ih s6 ⟨(s1.tr h5.1).tr h6.1, ?_, h6.2.2⟩
      rw [h6.2.1, h5.2.1, s3, Int32.add_assoc, nI_add]
      rfl
  · intro _ s hs
    obtain ⟨hT, hT1, hT2⟩ := lvL_inv hI (sn S 1) (Nat.le_refl _)
    have t1 : sn (lvL S (sn S 1)).1 1 = sn S 1 := sn_eq (hT2 1 (by unfold kpI; omega))
    refine g_pure 5 (i' := 25) (lv' := [some (vR 6), some (vI (nI (sn S 1)))]) (st' := [vI 1, vR 203, vI (nI (sn S 1))]) rfl ?_
    refine g_ald rfl (g_A (a := 203) (kd := 1) (n := 6) rfl (by decide)) (by decide) (show (1 : Int32) = nI 1 from rfl) (by decide) ((hs.2.2.2.cnt (by decide)).trans hT.c1) ?_
    exact g_if2 (i' := 42) (P := sn (lvL S (sn S 1)).1 1 ≤ sn S 1) rfl rfl (g_geN rfl rfl (by omega) (by omega)) (fun _ => x s hs) (fun h => by omega)

theorem l_25_46 {X : Nat × (Nat → Int32)} {d : Nat} {p : Nat → Nat} {sg : Mg} {B : Nat} {S : Nat → Int32} (hI : Inv B S) (hL : cwL 250 sg S) (hD : cwD 200 sg S) {Q : am_R → Prop} {z : Option AV}
    (x : ∀ s, (DF sg s ∧ s 6 = sg 6 ∧ CS s (stA S (sn S 4))) → Q (gR0 p s)) :
    gW X (d + 6) k_25 46 [some (vR 6), some (vI (nI 0))] [] p sg Q := by
  have b4 := hI.b4
  have key := g_upI (P := fun k => ∀ s, (DF sg s ∧ s 6 = sg 6 ∧ CS s (stA S k)) → gW X (d + 6) k_25 46 [some (vR 6), some (vI (nI k))] [] p s Q) (I := fun _ => True) (n := sn S 4) (a := 0) (by omega) trivial ?_ ?_
  · exact key sg ⟨DF.rf _, rfl, hL, hD⟩
  · intro k _ hk _ ih s hs
    have ih := ih trivial
    obtain ⟨hT, hT2⟩ := stA_inv hI k (by omega)
    rw [show stA S (k + 1) = stD (stA S k) k from rfl] at ih
    have t4 : sn (stA S k) 4 = sn S 4 := sn_eq (hT2 4 (by unfold kpI; omega))
    generalize stA S k = T at hs hT t4 ih
    obtain ⟨s1, s3, s4⟩ := hs
    refine g_pure 5 (i' := 51) (lv' := [some (vR 6), some (vI (nI k))]) (st' := [vI 4, vR 203, vI (nI k)]) rfl ?_
    refine g_ald rfl (g_A (a := 203) (kd := 1) (n := 6) rfl (by decide)) (by decide) (show (4 : Int32) = nI 4 from rfl) (by decide) ((s4.2.cnt (by decide)).trans hT.c4) ?_
    refine g_if2 (i' := 58) (P := sn T 4 ≤ k) rfl rfl (g_geN rfl rfl (by omega) (by omega)) (fun h => by omega) (fun _ => ?_)
    refine g_pure 2 (i' := 55) (lv' := [some (vR 6), some (vI (nI k))]) (st' := [vI (nI k), vR 6]) rfl ?_
    refine g_cV0E rfl (args := [vR 6, vI (nI k)]) (rest := []) rfl rfl rfl (s_33 (d := d + 2) hT s4.1 s4.2 (by omega)) (fun s5 h5 => ?_)
    refine g_pure 2 (i' := 46) (lv' := [some (vR 6), some (vI (nI k + 1))]) (st' := []) rfl ?_
    refine gW_eq (lv' := [some (vR 6), some (vI (nI (k + 1)))]) (by rw [nI_succ]) rfl rfl ?_
    exact ih s5 ⟨s1.tr h5.1, h5.2.1.trans s3, h5.2.2⟩
  · intro _ s hs
    obtain ⟨hT, hT2⟩ := stA_inv hI (sn S 4) (Nat.le_refl _)
    have t4 : sn (stA S (sn S 4)) 4 = sn S 4 := sn_eq (hT2 4 (by unfold kpI; omega))
    refine g_pure 5 (i' := 51) (lv' := [some (vR 6), some (vI (nI (sn S 4)))]) (st' := [vI 4, vR 203, vI (nI (sn S 4))]) rfl ?_
    refine g_ald rfl (g_A (a := 203) (kd := 1) (n := 6) rfl (by decide)) (by decide) (show (4 : Int32) = nI 4 from rfl) (by decide) ((hs.2.2.2.cnt (by decide)).trans hT.c4) ?_
    refine g_if2 (i' := 58) (P := sn (stA S (sn S 4)) 4 ≤ sn S 4) rfl rfl (g_geN rfl rfl (by omega) (by omega)) (fun _ => ?_) (fun h => by omega)
    exact g_vret rfl (x s hs)
