/-! LAW: conditions, in the class (made by wip/whole/gen89zze.py) -/
theorem b_52_0 {X : Nat × (Nat → Int32)} {d : Nat} {p : Nat → Nat} {sg : Mg} {Q : am_R → Prop} {T : Nat → Int32} {tn tk : Nat} {tE : LE} (hT : CT T tn tk sg) (hC : LCd tE sg) {sg0 : Mg} (hF : FL sg0 sg) {g : Nat} (u_g : g ≤ 6)
    (o1 : (dcN (isW T tn tk (am_SL 21)) = true) → (g < 6) → ∀ s3 : Mg, (CT T tn (nxK T tn tk) s3 ∧ CN sg s3) → (¬ (dcN (isW T tn tk (am_SL 21)) = true)) → CT T tn (nxK T tn tk) s3 → LCd tE s3 → FL sg0 s3 → gW X (d + 4) k_52 36 [some (vR 5), some (vI (nI g)), some (vI (if dcN (isW T tn tk (am_SL 21)) = true then 1 else 0)), none] [] p s3 Q)
    (o2 : (dcN (isW T tn tk (am_SL 21)) = true) → (g < 6) → ∀ s3 : Mg, (CT T tn (nxK T tn tk) s3 ∧ CN sg s3) → ((dcN (isW T tn tk (am_SL 21)) = true)) → CT T tn (nxK T tn tk) s3 → LCd tE s3 → FL sg0 s3 → gW X (d + 4) k_52 26 [some (vR 5), some (vI (nI g)), some (vI (if dcN (isW T tn tk (am_SL 21)) = true then 1 else 0)), none] [] p s3 Q)
    (o3 : (dcN (isW T tn tk (am_SL 21)) = true) → (¬ (g < 6)) → ∀ s5 : Mg, (CF (spK T tn tk) sg s5) → CT T tn tk sg → LCd tE sg → FL sg0 sg → Q (gRx p s5 0))
    (o4 : (¬ (dcN (isW T tn tk (am_SL 21)) = true)) → (¬ (dcN (isG T tn tk 40) = true)) → (dcN (isW T tn tk (am_SL 23)) = true) → (¬ (dcN (isW T tn tk (am_SL 23)) = true)) → tE.length < 400)
    (o5 : (¬ (dcN (isW T tn tk (am_SL 21)) = true)) → (¬ (dcN (isG T tn tk 40) = true)) → (dcN (isW T tn tk (am_SL 23)) = true) → (¬ (dcN (isW T tn tk (am_SL 23)) = true)) → ∀ s9 : Mg, (EM (9, 0) tE sg s9) → ∀ s10 : Mg, (CT T tn (nxK T tn tk) s10 ∧ CN s9 s10) → CT T tn (nxK T tn tk) s10 → LCd (tE ++ [(9, 0)]) s10 → FL sg0 s10 → Q (gR0 p s10))
    (o6 : (¬ (dcN (isW T tn tk (am_SL 21)) = true)) → (¬ (dcN (isG T tn tk 40) = true)) → (dcN (isW T tn tk (am_SL 23)) = true) → ((dcN (isW T tn tk (am_SL 23)) = true)) → tE.length < 400)
    (o7 : (¬ (dcN (isW T tn tk (am_SL 21)) = true)) → (¬ (dcN (isG T tn tk 40) = true)) → (dcN (isW T tn tk (am_SL 23)) = true) → ((dcN (isW T tn tk (am_SL 23)) = true)) → ∀ s11 : Mg, (EM (8, 0) tE sg s11) → ∀ s12 : Mg, (CT T tn (nxK T tn tk) s12 ∧ CN s11 s12) → CT T tn (nxK T tn tk) s12 → LCd (tE ++ [(8, 0)]) s12 → FL sg0 s12 → Q (gR0 p s12))
    (o8 : (¬ (dcN (isW T tn tk (am_SL 21)) = true)) → (¬ (dcN (isG T tn tk 40) = true)) → (¬ (dcN (isW T tn tk (am_SL 23)) = true)) → (¬ (dcN (isW T tn tk (am_SL 24)) = true)) → CT T tn tk sg → LCd tE sg → FL sg0 sg → gW X (d + 4) k_52 72 [some (vR 5), some (vI (nI g)), some (vI (if dcN (isW T tn tk (am_SL 21)) = true then 1 else 0)), none] [vR 5] p sg Q)
    (o9 : (¬ (dcN (isW T tn tk (am_SL 21)) = true)) → (¬ (dcN (isG T tn tk 40) = true)) → (¬ (dcN (isW T tn tk (am_SL 23)) = true)) → ((dcN (isW T tn tk (am_SL 24)) = true)) → (¬ (dcN (isW T tn tk (am_SL 23)) = true)) → tE.length < 400)
    (o10 : (¬ (dcN (isW T tn tk (am_SL 21)) = true)) → (¬ (dcN (isG T tn tk 40) = true)) → (¬ (dcN (isW T tn tk (am_SL 23)) = true)) → ((dcN (isW T tn tk (am_SL 24)) = true)) → (¬ (dcN (isW T tn tk (am_SL 23)) = true)) → ∀ s15 : Mg, (EM (9, 0) tE sg s15) → ∀ s16 : Mg, (CT T tn (nxK T tn tk) s16 ∧ CN s15 s16) → CT T tn (nxK T tn tk) s16 → LCd (tE ++ [(9, 0)]) s16 → FL sg0 s16 → Q (gR0 p s16))
    (o11 : (¬ (dcN (isW T tn tk (am_SL 21)) = true)) → (¬ (dcN (isG T tn tk 40) = true)) → (¬ (dcN (isW T tn tk (am_SL 23)) = true)) → ((dcN (isW T tn tk (am_SL 24)) = true)) → ((dcN (isW T tn tk (am_SL 23)) = true)) → tE.length < 400)
    (o12 : (¬ (dcN (isW T tn tk (am_SL 21)) = true)) → (¬ (dcN (isG T tn tk 40) = true)) → (¬ (dcN (isW T tn tk (am_SL 23)) = true)) → ((dcN (isW T tn tk (am_SL 24)) = true)) → ((dcN (isW T tn tk (am_SL 23)) = true)) → ∀ s17 : Mg, (EM (8, 0) tE sg s17) → ∀ s18 : Mg, (CT T tn (nxK T tn tk) s18 ∧ CN s17 s18) → CT T tn (nxK T tn tk) s18 → LCd (tE ++ [(8, 0)]) s18 → FL sg0 s18 → Q (gR0 p s18))
    (o13 : (¬ (dcN (isW T tn tk (am_SL 21)) = true)) → ((dcN (isG T tn tk 40) = true)) → (g < 6) → ∀ s20 : Mg, (CT T tn (nxK T tn tk) s20 ∧ CN sg s20) → (¬ (dcN (isW T tn tk (am_SL 21)) = true)) → CT T tn (nxK T tn tk) s20 → LCd tE s20 → FL sg0 s20 → gW X (d + 4) k_52 36 [some (vR 5), some (vI (nI g)), some (vI (if dcN (isW T tn tk (am_SL 21)) = true then 1 else 0)), none] [] p s20 Q)
    (o14 : (¬ (dcN (isW T tn tk (am_SL 21)) = true)) → ((dcN (isG T tn tk 40) = true)) → (g < 6) → ∀ s20 : Mg, (CT T tn (nxK T tn tk) s20 ∧ CN sg s20) → ((dcN (isW T tn tk (am_SL 21)) = true)) → CT T tn (nxK T tn tk) s20 → LCd tE s20 → FL sg0 s20 → gW X (d + 4) k_52 26 [some (vR 5), some (vI (nI g)), some (vI (if dcN (isW T tn tk (am_SL 21)) = true then 1 else 0)), none] [] p s20 Q)
    (o15 : (¬ (dcN (isW T tn tk (am_SL 21)) = true)) → ((dcN (isG T tn tk 40) = true)) → (¬ (g < 6)) → ∀ s22 : Mg, (CF (spK T tn tk) sg s22) → CT T tn tk sg → LCd tE sg → FL sg0 sg → Q (gRx p s22 0)) :
    gW X (d + 4) k_52 0 [some (vR 5), some (vI (nI g)), none, none] [] p sg Q := by
  refine g_pure 3 (i' := 3) (lv' := [some (vR 5), some (vI (nI g)), none, none]) (st' := [vS 21, vR 1]) rfl ?_
  refine g_cV1 rfl (args := [vR 1, vS 21]) (rest := []) rfl rfl rfl (s_74 (d := d + 3) (by decide) hT) ?_
  refine g_pure 2 (i' := 6) (lv' := [some (vR 5), some (vI (nI g)), some (vI (if dcN (isW T tn tk (am_SL 21)) = true then 1 else 0)), none]) (st' := [vI (if dcN (isW T tn tk (am_SL 21)) = true then 1 else 0)]) rfl ?_
  refine g_if1 (i' := 12) (P := dcN (isW T tn tk (am_SL 21)) = true) rfl rfl g_neB (fun h1 => ?_) (fun h1 => ?_)
  · refine g_pure 2 (i' := 14) (lv' := [some (vR 5), some (vI (nI g)), some (vI (if dcN (isW T tn tk (am_SL 21)) = true then 1 else 0)), none]) (st' := [vI 6, vI (nI g)]) rfl ?_
    refine g_if2 (i' := 21) (P := g < 6) rfl rfl (g_ltN (show nI g = nI g from (rfl : nI g = nI g)) (show 6 = nI 6 from (show (6 : Int32) = nI 6 from rfl)) (by omega) (by omega)) (fun h2 => ?_) (fun h2 => ?_)
    · refine g_pure 2 (i' := 23) (lv' := [some (vR 5), some (vI (nI g)), some (vI (if dcN (isW T tn tk (am_SL 21)) = true then 1 else 0)), none]) (st' := [vR 1]) rfl ?_
      refine g_cV0E rfl (args := [vR 1]) (rest := []) rfl rfl rfl (s_70 (d := d + 3) hT) (fun s3 es3 => ?_)
      have hTs3 := es3.1
      have hFs3 := hF.cn es3.2
      have hCs3 : LCd tE s3 := hC.cn es3.2
      refine g_pure 1 (i' := 25) (lv' := [some (vR 5), some (vI (nI g)), some (vI (if dcN (isW T tn tk (am_SL 21)) = true then 1 else 0)), none]) (st' := [vI (if dcN (isW T tn tk (am_SL 21)) = true then 1 else 0)]) rfl ?_
      refine g_if1 (i' := 36) (P := ¬ (dcN (isW T tn tk (am_SL 21)) = true)) rfl rfl g_eqB (fun h4 => ?_) (fun h4 => ?_)
      · exact o1 h1 h2 s3 es3 h4 hTs3 hCs3 hFs3
      · have h4 := Classical.not_not.mp h4
        exact o2 h1 h2 s3 es3 h4 hTs3 hCs3 hFs3
    · refine g_pure 4 (i' := 19) (lv' := [some (vR 5), some (vI (nI g)), some (vI (if dcN (isW T tn tk (am_SL 21)) = true then 1 else 0)), none]) (st' := [vR 1, vR 1]) rfl ?_
      refine g_cV1 rfl (args := [vR 1]) (rest := [vR 1]) rfl rfl rfl (s_76 (d := d + 3) hT) ?_
      refine g_cVxE rfl (args := [vR 1, vI (nI (spK T tn tk))]) (rest := []) rfl rfl rfl (s_75 (d := d + 3) ) (fun s5 es5 => ?_)
      exact o3 h1 h2 s5 es5 hT hC hF
  · refine g_pure 3 (i' := 10) (lv' := [some (vR 5), some (vI (nI g)), some (vI (if dcN (isW T tn tk (am_SL 21)) = true then 1 else 0)), none]) (st' := [vI 40, vR 1]) rfl ?_
    refine g_cV1 rfl (args := [vR 1, vI 40]) (rest := []) rfl rfl rfl (s_79 (d := d + 3) hT) ?_
    refine g_if1 (i' := 46) (P := ¬ (dcN (isG T tn tk 40) = true)) rfl rfl g_eqB (fun h6 => ?_) (fun h6 => ?_)
    · refine g_pure 3 (i' := 49) (lv' := [some (vR 5), some (vI (nI g)), some (vI (if dcN (isW T tn tk (am_SL 21)) = true then 1 else 0)), none]) (st' := [vS 23, vR 1]) rfl ?_
      refine g_cV1 rfl (args := [vR 1, vS 23]) (rest := []) rfl rfl rfl (s_74 (d := d + 3) (by decide) hT) ?_
      refine g_if1 (i' := 56) (P := dcN (isW T tn tk (am_SL 23)) = true) rfl rfl g_neB (fun h7 => ?_) (fun h7 => ?_)
      · refine g_pure 5 (i' := 61) (lv' := [some (vR 5), some (vI (nI g)), some (vI (if dcN (isW T tn tk (am_SL 21)) = true then 1 else 0)), none]) (st' := [vS 23, vR 1, vR 308]) rfl ?_
        refine g_cV1 rfl (args := [vR 1, vS 23]) (rest := [vR 308]) rfl rfl rfl (s_74 (d := d + 3) (by decide) hT) ?_
        refine g_if1 (i' := 65) (P := ¬ (dcN (isW T tn tk (am_SL 23)) = true)) rfl rfl g_eqB (fun h8 => ?_) (fun h8 => ?_)
        · refine g_pure 1 (i' := 66) (lv' := [some (vR 5), some (vI (nI g)), some (vI (if dcN (isW T tn tk (am_SL 21)) = true then 1 else 0)), none]) (st' := [vI 1009, vR 308]) rfl ?_
          refine g_cV0E rfl (args := [vR 308, vI 1009]) (rest := []) rfl rfl rfl (s_42 (d := d + 3) (q := (9, 0)) hC (o4 h1 h6 h7 h8) (show (1009 : Int32) = cdL (9, 0) from by decide +kernel)) (fun s9 es9 => ?_)
          have hTs9 := hT.eq (es9.1 1 (by decide) (by decide)) (es9.1 2 (by decide) (by decide))
          have hFs9 := hF.em es9
          have hCs9 : LCd (tE ++ [(9, 0)]) s9 := es9.2.2
          refine g_pure 2 (i' := 69) (lv' := [some (vR 5), some (vI (nI g)), some (vI (if dcN (isW T tn tk (am_SL 21)) = true then 1 else 0)), none]) (st' := [vR 1]) rfl ?_
          refine g_cV0E rfl (args := [vR 1]) (rest := []) rfl rfl rfl (s_70 (d := d + 3) hTs9) (fun s10 es10 => ?_)
          have hTs10 := es10.1
          have hFs10 := hFs9.cn es10.2
          have hCs10 : LCd (tE ++ [(9, 0)]) s10 := hCs9.cn es10.2
          refine g_pure 1 (i' := 96) (lv' := [some (vR 5), some (vI (nI g)), some (vI (if dcN (isW T tn tk (am_SL 21)) = true then 1 else 0)), none]) (st' := []) rfl ?_
          refine g_vret rfl ?_
          exact o5 h1 h6 h7 h8 s9 es9 s10 es10 hTs10 hCs10 hFs10
        · have h8 := Classical.not_not.mp h8
          refine g_pure 2 (i' := 66) (lv' := [some (vR 5), some (vI (nI g)), some (vI (if dcN (isW T tn tk (am_SL 21)) = true then 1 else 0)), none]) (st' := [vI 1008, vR 308]) rfl ?_
          refine g_cV0E rfl (args := [vR 308, vI 1008]) (rest := []) rfl rfl rfl (s_42 (d := d + 3) (q := (8, 0)) hC (o6 h1 h6 h7 h8) (show (1008 : Int32) = cdL (8, 0) from by decide +kernel)) (fun s11 es11 => ?_)
          have hTs11 := hT.eq (es11.1 1 (by decide) (by decide)) (es11.1 2 (by decide) (by decide))
          have hFs11 := hF.em es11
          have hCs11 : LCd (tE ++ [(8, 0)]) s11 := es11.2.2
          refine g_pure 2 (i' := 69) (lv' := [some (vR 5), some (vI (nI g)), some (vI (if dcN (isW T tn tk (am_SL 21)) = true then 1 else 0)), none]) (st' := [vR 1]) rfl ?_
          refine g_cV0E rfl (args := [vR 1]) (rest := []) rfl rfl rfl (s_70 (d := d + 3) hTs11) (fun s12 es12 => ?_)
          have hTs12 := es12.1
          have hFs12 := hFs11.cn es12.2
          have hCs12 : LCd (tE ++ [(8, 0)]) s12 := hCs11.cn es12.2
          refine g_pure 1 (i' := 96) (lv' := [some (vR 5), some (vI (nI g)), some (vI (if dcN (isW T tn tk (am_SL 21)) = true then 1 else 0)), none]) (st' := []) rfl ?_
          refine g_vret rfl ?_
          exact o7 h1 h6 h7 h8 s11 es11 s12 es12 hTs12 hCs12 hFs12
      · refine g_pure 3 (i' := 54) (lv' := [some (vR 5), some (vI (nI g)), some (vI (if dcN (isW T tn tk (am_SL 21)) = true then 1 else 0)), none]) (st' := [vS 24, vR 1]) rfl ?_
        refine g_cV1 rfl (args := [vR 1, vS 24]) (rest := []) rfl rfl rfl (s_74 (d := d + 3) (by decide) hT) ?_
        refine g_if1 (i' := 71) (P := ¬ (dcN (isW T tn tk (am_SL 24)) = true)) rfl rfl g_eqB (fun h13 => ?_) (fun h13 => ?_)
        · refine g_pure 1 (i' := 72) (lv' := [some (vR 5), some (vI (nI g)), some (vI (if dcN (isW T tn tk (am_SL 21)) = true then 1 else 0)), none]) (st' := [vR 5]) rfl ?_
          exact o8 h1 h6 h7 h13 hT hC hF
        · have h13 := Classical.not_not.mp h13
          refine g_pure 5 (i' := 61) (lv' := [some (vR 5), some (vI (nI g)), some (vI (if dcN (isW T tn tk (am_SL 21)) = true then 1 else 0)), none]) (st' := [vS 23, vR 1, vR 308]) rfl ?_
          refine g_cV1 rfl (args := [vR 1, vS 23]) (rest := [vR 308]) rfl rfl rfl (s_74 (d := d + 3) (by decide) hT) ?_
          refine g_if1 (i' := 65) (P := ¬ (dcN (isW T tn tk (am_SL 23)) = true)) rfl rfl g_eqB (fun h14 => ?_) (fun h14 => ?_)
          · refine g_pure 1 (i' := 66) (lv' := [some (vR 5), some (vI (nI g)), some (vI (if dcN (isW T tn tk (am_SL 21)) = true then 1 else 0)), none]) (st' := [vI 1009, vR 308]) rfl ?_
            refine g_cV0E rfl (args := [vR 308, vI 1009]) (rest := []) rfl rfl rfl (s_42 (d := d + 3) (q := (9, 0)) hC (o9 h1 h6 h7 h13 h14) (show (1009 : Int32) = cdL (9, 0) from by decide +kernel)) (fun s15 es15 => ?_)
            have hTs15 := hT.eq (es15.1 1 (by decide) (by decide)) (es15.1 2 (by decide) (by decide))
            have hFs15 := hF.em es15
            have hCs15 : LCd (tE ++ [(9, 0)]) s15 := es15.2.2
            refine g_pure 2 (i' := 69) (lv' := [some (vR 5), some (vI (nI g)), some (vI (if dcN (isW T tn tk (am_SL 21)) = true then 1 else 0)), none]) (st' := [vR 1]) rfl ?_
            refine g_cV0E rfl (args := [vR 1]) (rest := []) rfl rfl rfl (s_70 (d := d + 3) hTs15) (fun s16 es16 => ?_)
            have hTs16 := es16.1
            have hFs16 := hFs15.cn es16.2
            have hCs16 : LCd (tE ++ [(9, 0)]) s16 := hCs15.cn es16.2
            refine g_pure 1 (i' := 96) (lv' := [some (vR 5), some (vI (nI g)), some (vI (if dcN (isW T tn tk (am_SL 21)) = true then 1 else 0)), none]) (st' := []) rfl ?_
            refine g_vret rfl ?_
            exact o10 h1 h6 h7 h13 h14 s15 es15 s16 es16 hTs16 hCs16 hFs16
          · have h14 := Classical.not_not.mp h14
            refine g_pure 2 (i' := 66) (lv' := [some (vR 5), some (vI (nI g)), some (vI (if dcN (isW T tn tk (am_SL 21)) = true then 1 else 0)), none]) (st' := [vI 1008, vR 308]) rfl ?_
            refine g_cV0E rfl (args := [vR 308, vI 1008]) (rest := []) rfl rfl rfl (s_42 (d := d + 3) (q := (8, 0)) hC (o11 h1 h6 h7 h13 h14) (show (1008 : Int32) = cdL (8, 0) from by decide +kernel)) (fun s17 es17 => ?_)
            have hTs17 := hT.eq (es17.1 1 (by decide) (by decide)) (es17.1 2 (by decide) (by decide))
            have hFs17 := hF.em es17
            have hCs17 : LCd (tE ++ [(8, 0)]) s17 := es17.2.2
            refine g_pure 2 (i' := 69) (lv' := [some (vR 5), some (vI (nI g)), some (vI (if dcN (isW T tn tk (am_SL 21)) = true then 1 else 0)), none]) (st' := [vR 1]) rfl ?_
            refine g_cV0E rfl (args := [vR 1]) (rest := []) rfl rfl rfl (s_70 (d := d + 3) hTs17) (fun s18 es18 => ?_)
            have hTs18 := es18.1
            have hFs18 := hFs17.cn es18.2
            have hCs18 : LCd (tE ++ [(8, 0)]) s18 := hCs17.cn es18.2
            refine g_pure 1 (i' := 96) (lv' := [some (vR 5), some (vI (nI g)), some (vI (if dcN (isW T tn tk (am_SL 21)) = true then 1 else 0)), none]) (st' := []) rfl ?_
            refine g_vret rfl ?_
            exact o12 h1 h6 h7 h13 h14 s17 es17 s18 es18 hTs18 hCs18 hFs18
    · have h6 := Classical.not_not.mp h6
      refine g_pure 2 (i' := 14) (lv' := [some (vR 5), some (vI (nI g)), some (vI (if dcN (isW T tn tk (am_SL 21)) = true then 1 else 0)), none]) (st' := [vI 6, vI (nI g)]) rfl ?_
      refine g_if2 (i' := 21) (P := g < 6) rfl rfl (g_ltN (show nI g = nI g from (rfl : nI g = nI g)) (show 6 = nI 6 from (show (6 : Int32) = nI 6 from rfl)) (by omega) (by omega)) (fun h19 => ?_) (fun h19 => ?_)
      · refine g_pure 2 (i' := 23) (lv' := [some (vR 5), some (vI (nI g)), some (vI (if dcN (isW T tn tk (am_SL 21)) = true then 1 else 0)), none]) (st' := [vR 1]) rfl ?_
        refine g_cV0E rfl (args := [vR 1]) (rest := []) rfl rfl rfl (s_70 (d := d + 3) hT) (fun s20 es20 => ?_)
        have hTs20 := es20.1
        have hFs20 := hF.cn es20.2
        have hCs20 : LCd tE s20 := hC.cn es20.2
        refine g_pure 1 (i' := 25) (lv' := [some (vR 5), some (vI (nI g)), some (vI (if dcN (isW T tn tk (am_SL 21)) = true then 1 else 0)), none]) (st' := [vI (if dcN (isW T tn tk (am_SL 21)) = true then 1 else 0)]) rfl ?_
        refine g_if1 (i' := 36) (P := ¬ (dcN (isW T tn tk (am_SL 21)) = true)) rfl rfl g_eqB (fun h21 => ?_) (fun h21 => ?_)
        · exact o13 h1 h6 h19 s20 es20 h21 hTs20 hCs20 hFs20
        · have h21 := Classical.not_not.mp h21
          exact o14 h1 h6 h19 s20 es20 h21 hTs20 hCs20 hFs20
      · refine g_pure 4 (i' := 19) (lv' := [some (vR 5), some (vI (nI g)), some (vI (if dcN (isW T tn tk (am_SL 21)) = true then 1 else 0)), none]) (st' := [vR 1, vR 1]) rfl ?_
        refine g_cV1 rfl (args := [vR 1]) (rest := [vR 1]) rfl rfl rfl (s_76 (d := d + 3) hT) ?_
        refine g_cVxE rfl (args := [vR 1, vI (nI (spK T tn tk))]) (rest := []) rfl rfl rfl (s_75 (d := d + 3) ) (fun s22 es22 => ?_)
        exact o15 h1 h6 h19 s22 es22 hT hC hF

theorem b_52_73 {X : Nat × (Nat → Int32)} {d : Nat} {p : Nat → Nat} {sg : Mg} {Q : am_R → Prop} {T : Nat → Int32} {tn tk : Nat} {tE : LE} (hT : CT T tn tk sg) (hC : LCd tE sg) {sg0 : Mg} (hF : FL sg0 sg) {z1 : Option AV} {z2 : Option AV}
    (o1 : (¬ (dcN (isG T tn tk 60) = true)) → (isW T tn tk (am_SL 34)) → ∀ s3 : Mg, (CT T tn (nxK T tn tk) s3 ∧ CN sg s3) → CT T tn (nxK T tn tk) s3 → LCd tE s3 → FL sg0 s3 → gW X (d + 4) k_52 87 [some (vR 5), z1, z2, some (vI (if dcN (isG T tn tk 60) = true then 1 else 0))] [vR 5] p s3 Q)
    (o2 : (¬ (dcN (isG T tn tk 60) = true)) → (¬ isW T tn tk (am_SL 34)) → ∀ s4 : Mg, (CF (spK T tn tk) sg s4) → CT T tn tk sg → LCd tE sg → FL sg0 sg → Q (gRx p s4 0))
    (o3 : ((dcN (isG T tn tk 60) = true)) → (isW T tn tk (am_SL 33)) → ∀ s6 : Mg, (CT T tn (nxK T tn tk) s6 ∧ CN sg s6) → CT T tn (nxK T tn tk) s6 → LCd tE s6 → FL sg0 s6 → gW X (d + 4) k_52 87 [some (vR 5), z1, z2, some (vI (if dcN (isG T tn tk 60) = true then 1 else 0))] [vR 5] p s6 Q)
    (o4 : ((dcN (isG T tn tk 60) = true)) → (¬ isW T tn tk (am_SL 33)) → ∀ s7 : Mg, (CF (spK T tn tk) sg s7) → CT T tn tk sg → LCd tE sg → FL sg0 sg → Q (gRx p s7 0)) :
    gW X (d + 4) k_52 73 [some (vR 5), z1, z2, none] [] p sg Q := by
  refine g_pure 3 (i' := 76) (lv' := [some (vR 5), z1, z2, none]) (st' := [vI 60, vR 1]) rfl ?_
  refine g_cV1 rfl (args := [vR 1, vI 60]) (rest := []) rfl rfl rfl (s_79 (d := d + 3) hT) ?_
  refine g_pure 4 (i' := 81) (lv' := [some (vR 5), z1, z2, some (vI (if dcN (isG T tn tk 60) = true then 1 else 0))]) (st' := [vI (if dcN (isG T tn tk 60) = true then 1 else 0), vR 1]) rfl ?_
  refine g_if1 (i' := 84) (P := ¬ (dcN (isG T tn tk 60) = true)) rfl rfl g_eqB (fun h1 => ?_) (fun h1 => ?_)
  · refine g_pure 1 (i' := 85) (lv' := [some (vR 5), z1, z2, some (vI (if dcN (isG T tn tk 60) = true then 1 else 0))]) (st' := [vS 34, vR 1]) rfl ?_
    by_cases h2 : isW T tn tk (am_SL 34)
    · refine g_cV0E rfl (args := [vR 1, vS 34]) (rest := []) rfl rfl rfl (s_73a (d := d + 2) (by decide) hT (by assumption)) (fun s3 es3 => ?_)
      have hTs3 := es3.1
      have hFs3 := hF.cn es3.2
      have hCs3 : LCd tE s3 := hC.cn es3.2
      refine g_pure 1 (i' := 87) (lv' := [some (vR 5), z1, z2, some (vI (if dcN (isG T tn tk 60) = true then 1 else 0))]) (st' := [vR 5]) rfl ?_
      exact o1 h1 h2 s3 es3 hTs3 hCs3 hFs3
    · refine g_cVxE rfl (args := [vR 1, vS 34]) (rest := []) rfl rfl rfl (s_73b (d := d + 2) (by decide) hT (by assumption)) (fun s4 es4 => ?_)
      exact o2 h1 h2 s4 es4 hT hC hF
  · have h1 := Classical.not_not.mp h1
    refine g_pure 2 (i' := 85) (lv' := [some (vR 5), z1, z2, some (vI (if dcN (isG T tn tk 60) = true then 1 else 0))]) (st' := [vS 33, vR 1]) rfl ?_
    by_cases h5 : isW T tn tk (am_SL 33)
    · refine g_cV0E rfl (args := [vR 1, vS 33]) (rest := []) rfl rfl rfl (s_73a (d := d + 2) (by decide) hT (by assumption)) (fun s6 es6 => ?_)
      have hTs6 := es6.1
      have hFs6 := hF.cn es6.2
      have hCs6 : LCd tE s6 := hC.cn es6.2
      refine g_pure 1 (i' := 87) (lv' := [some (vR 5), z1, z2, some (vI (if dcN (isG T tn tk 60) = true then 1 else 0))]) (st' := [vR 5]) rfl ?_
      exact o3 h1 h5 s6 es6 hTs6 hCs6 hFs6
    · refine g_cVxE rfl (args := [vR 1, vS 33]) (rest := []) rfl rfl rfl (s_73b (d := d + 2) (by decide) hT (by assumption)) (fun s7 es7 => ?_)
      exact o4 h1 h5 s7 es7 hT hC hF

theorem b_52_88 {X : Nat × (Nat → Int32)} {d : Nat} {p : Nat → Nat} {sg : Mg} {Q : am_R → Prop} {T : Nat → Int32} {tn tk : Nat} {tE : LE} (hT : CT T tn tk sg) (hC : LCd tE sg) {sg0 : Mg} (hF : FL sg0 sg) {z1 : Option AV} {z2 : Option AV} {W : Prop} [Decidable W]
    (o1 : (¬ W) → tE.length < 400)
    (o2 : (¬ W) → ∀ s2 : Mg, (EM (13, 0) tE sg s2) → CT T tn tk s2 → LCd (tE ++ [(13, 0)]) s2 → FL sg0 s2 → Q (gR0 p s2))
    (o3 : (W) → tE.length < 400)
    (o4 : (W) → ∀ s3 : Mg, (EM (12, 0) tE sg s3) → CT T tn tk s3 → LCd (tE ++ [(12, 0)]) s3 → FL sg0 s3 → Q (gR0 p s3)) :
    gW X (d + 4) k_52 88 [some (vR 5), z1, z2, some (vI (if W then 1 else 0))] [] p sg Q := by
  refine g_pure 3 (i' := 91) (lv' := [some (vR 5), z1, z2, some (vI (if W then 1 else 0))]) (st' := [vI (if W then 1 else 0), vR 308]) rfl ?_
  refine g_if1 (i' := 94) (P := ¬ W) rfl rfl g_eqB (fun h1 => ?_) (fun h1 => ?_)
  · refine g_pure 1 (i' := 95) (lv' := [some (vR 5), z1, z2, some (vI (if W then 1 else 0))]) (st' := [vI 1013, vR 308]) rfl ?_
    refine g_cV0E rfl (args := [vR 308, vI 1013]) (rest := []) rfl rfl rfl (s_42 (d := d + 3) (q := (13, 0)) hC (o1 h1) (show (1013 : Int32) = cdL (13, 0) from by decide +kernel)) (fun s2 es2 => ?_)
    have hTs2 := hT.eq (es2.1 1 (by decide) (by decide)) (es2.1 2 (by decide) (by decide))
    have hFs2 := hF.em es2
    have hCs2 : LCd (tE ++ [(13, 0)]) s2 := es2.2.2
    refine g_vret rfl ?_
    exact o2 h1 s2 es2 hTs2 hCs2 hFs2
  · have h1 := Classical.not_not.mp h1
    refine g_pure 2 (i' := 95) (lv' := [some (vR 5), z1, z2, some (vI (if W then 1 else 0))]) (st' := [vI 1012, vR 308]) rfl ?_
    refine g_cV0E rfl (args := [vR 308, vI 1012]) (rest := []) rfl rfl rfl (s_42 (d := d + 3) (q := (12, 0)) hC (o3 h1) (show (1012 : Int32) = cdL (12, 0) from by decide +kernel)) (fun s3 es3 => ?_)
    have hTs3 := hT.eq (es3.1 1 (by decide) (by decide)) (es3.1 2 (by decide) (by decide))
    have hFs3 := hF.em es3
    have hCs3 : LCd (tE ++ [(12, 0)]) s3 := es3.2.2
    refine g_vret rfl ?_
    exact o4 h1 s3 es3 hTs3 hCs3 hFs3

theorem b_52_31 {X : Nat × (Nat → Int32)} {d : Nat} {p : Nat → Nat} {sg : Mg} {Q : am_R → Prop} {T : Nat → Int32} {tn tk : Nat} {tE : LE} (hT : CT T tn tk sg) (hC : LCd tE sg) {sg0 : Mg} (hF : FL sg0 sg) {z1 : Option AV} {z2 : Option AV}
    (o1 : tE.length < 400)
    (o2 : ∀ s1 : Mg, (EM (14, 0) tE sg s1) → CT T tn tk s1 → LCd (tE ++ [(14, 0)]) s1 → FL sg0 s1 → Q (gR0 p s1)) :
    gW X (d + 4) k_52 31 [some (vR 5), z1, z2, none] [] p sg Q := by
  refine g_pure 3 (i' := 34) (lv' := [some (vR 5), z1, z2, none]) (st' := [vI 1010, vR 308]) rfl ?_
  refine g_cV0E rfl (args := [vR 308, vI 1010]) (rest := []) rfl rfl rfl (s_42 (d := d + 3) (q := (14, 0)) hC (o1) (show (1010 : Int32) = cdL (14, 0) from by decide +kernel)) (fun s1 es1 => ?_)
  have hTs1 := hT.eq (es1.1 1 (by decide) (by decide)) (es1.1 2 (by decide) (by decide))
  have hFs1 := hF.em es1
  have hCs1 : LCd (tE ++ [(14, 0)]) s1 := es1.2.2
  refine g_pure 1 (i' := 96) (lv' := [some (vR 5), z1, z2, none]) (st' := []) rfl ?_
  refine g_vret rfl ?_
  exact o2 s1 es1 hTs1 hCs1 hFs1

theorem b_52_41 {X : Nat × (Nat → Int32)} {d : Nat} {p : Nat → Nat} {sg : Mg} {Q : am_R → Prop} {T : Nat → Int32} {tn tk : Nat} {tE : LE} (hT : CT T tn tk sg) (hC : LCd tE sg) {sg0 : Mg} (hF : FL sg0 sg) {z1 : Option AV} {z2 : Option AV}
    (o1 : (isW T tn tk (am_SL 22)) → ∀ s2 : Mg, (CT T tn (nxK T tn tk) s2 ∧ CN sg s2) → CT T tn (nxK T tn tk) s2 → LCd tE s2 → FL sg0 s2 → Q (gR0 p s2))
    (o2 : (¬ isW T tn tk (am_SL 22)) → ∀ s3 : Mg, (CF (spK T tn tk) sg s3) → CT T tn tk sg → LCd tE sg → FL sg0 sg → Q (gRx p s3 0)) :
    gW X (d + 4) k_52 41 [some (vR 5), z1, z2, none] [] p sg Q := by
  refine g_pure 3 (i' := 44) (lv' := [some (vR 5), z1, z2, none]) (st' := [vS 22, vR 1]) rfl ?_
  by_cases h1 : isW T tn tk (am_SL 22)
  · refine g_cV0E rfl (args := [vR 1, vS 22]) (rest := []) rfl rfl rfl (s_73a (d := d + 2) (by decide) hT (by assumption)) (fun s2 es2 => ?_)
    have hTs2 := es2.1
    have hFs2 := hF.cn es2.2
    have hCs2 : LCd tE s2 := hC.cn es2.2
    refine g_pure 1 (i' := 96) (lv' := [some (vR 5), z1, z2, none]) (st' := []) rfl ?_
    refine g_vret rfl ?_
    exact o1 h1 s2 es2 hTs2 hCs2 hFs2
  · refine g_cVxE rfl (args := [vR 1, vS 22]) (rest := []) rfl rfl rfl (s_73b (d := d + 2) (by decide) hT (by assumption)) (fun s3 es3 => ?_)
    exact o2 h1 s3 es3 hT hC hF

theorem b_51_10 {X : Nat × (Nat → Int32)} {d : Nat} {p : Nat → Nat} {sg : Mg} {Q : am_R → Prop} {T : Nat → Int32} {tn tk : Nat} {tE : LE} (hT : CT T tn tk sg) (hC : LCd tE sg) {sg0 : Mg} (hF : FL sg0 sg) {g : Nat} {o : Nat} {i : Nat} (u_g : g ≤ 6) (u_o : o ≤ 400) (u_i : i ≤ 400)
    (o1 : (400 ≤ i) → CT T tn tk sg → LCd tE sg → FL sg0 sg → gW X (d + 4) k_51 30 [some (vR 5), some (vI (nI g)), some (vI (nI o)), some (vI (nI i))] [] p sg Q)
    (o2 : (¬ (400 ≤ i)) → (¬ (dcN (isW T tn tk (am_SL 35)) = true)) → CT T tn tk sg → LCd tE sg → FL sg0 sg → gW X (d + 4) k_51 30 [some (vR 5), some (vI (nI g)), some (vI (nI o)), some (vI (nI i))] [] p sg Q)
    (o3 : (¬ (400 ≤ i)) → ((dcN (isW T tn tk (am_SL 35)) = true)) → ∀ s3 : Mg, (CT T tn (nxK T tn tk) s3 ∧ CN sg s3) → CT T tn (nxK T tn tk) s3 → LCd tE s3 → FL sg0 s3 → gW X (d + 4) k_51 23 [some (vR 5), some (vI (nI g)), some (vI (nI o)), some (vI (nI i))] [vI (nI g), vR 5] p s3 Q) :
    gW X (d + 4) k_51 10 [some (vR 5), some (vI (nI g)), some (vI (nI o)), some (vI (nI i))] [] p sg Q := by
  refine g_pure 2 (i' := 12) (lv' := [some (vR 5), some (vI (nI g)), some (vI (nI o)), some (vI (nI i))]) (st' := [vI 400, vI (nI i)]) rfl ?_
  refine g_if2 (i' := 30) (P := 400 ≤ i) rfl rfl (g_geN (show nI i = nI i from (rfl : nI i = nI i)) (show 400 = nI 400 from (show (400 : Int32) = nI 400 from rfl)) (by omega) (by omega)) (fun h1 => ?_) (fun h1 => ?_)
  · exact o1 h1 hT hC hF
  · refine g_pure 3 (i' := 16) (lv' := [some (vR 5), some (vI (nI g)), some (vI (nI o)), some (vI (nI i))]) (st' := [vS 35, vR 1]) rfl ?_
    refine g_cV1 rfl (args := [vR 1, vS 35]) (rest := []) rfl rfl rfl (s_74 (d := d + 3) (by decide) hT) ?_
    refine g_if1 (i' := 30) (P := ¬ (dcN (isW T tn tk (am_SL 35)) = true)) rfl rfl g_eqB (fun h2 => ?_) (fun h2 => ?_)
    · exact o2 h1 h2 hT hC hF
    · have h2 := Classical.not_not.mp h2
      refine g_pure 2 (i' := 20) (lv' := [some (vR 5), some (vI (nI g)), some (vI (nI o)), some (vI (nI i))]) (st' := [vR 1]) rfl ?_
      refine g_cV0E rfl (args := [vR 1]) (rest := []) rfl rfl rfl (s_70 (d := d + 3) hT) (fun s3 es3 => ?_)
      have hTs3 := es3.1
      have hFs3 := hF.cn es3.2
      have hCs3 : LCd tE s3 := hC.cn es3.2
      refine g_pure 2 (i' := 23) (lv' := [some (vR 5), some (vI (nI g)), some (vI (nI o)), some (vI (nI i))]) (st' := [vI (nI g), vR 5]) rfl ?_
      exact o3 h1 h2 s3 es3 hTs3 hCs3 hFs3

theorem b_51_24 {X : Nat × (Nat → Int32)} {d : Nat} {p : Nat → Nat} {sg : Mg} {Q : am_R → Prop} {T : Nat → Int32} {tn tk : Nat} {tE : LE} (hT : CT T tn tk sg) (hC : LCd tE sg) {sg0 : Mg} (hF : FL sg0 sg) {g : Nat} {o : Nat} {i : Nat} (u_g : g ≤ 6) (u_o : o ≤ 400) (u_i : i ≤ 400)
    (o1 : tE.length < 400)
    (o2 : ∀ s1 : Mg, (EM (15, 0) tE sg s1) → CT T tn tk s1 → LCd (tE ++ [(15, 0)]) s1 → FL sg0 s1 → gW X (d + 4) k_51 10 [some (vR 5), some (vI (nI g)), some (vI (nI o)), some (vI (nI (i + 1)))] [] p s1 Q) :
    gW X (d + 4) k_51 24 [some (vR 5), some (vI (nI g)), some (vI (nI o)), some (vI (nI i))] [] p sg Q := by
  refine g_pure 3 (i' := 27) (lv' := [some (vR 5), some (vI (nI g)), some (vI (nI o)), some (vI (nI i))]) (st' := [vI 1014, vR 308]) rfl ?_
  refine g_cV0E rfl (args := [vR 308, vI 1014]) (rest := []) rfl rfl rfl (s_42 (d := d + 3) (q := (15, 0)) hC (o1) (show (1014 : Int32) = cdL (15, 0) from by decide +kernel)) (fun s1 es1 => ?_)
  have hTs1 := hT.eq (es1.1 1 (by decide) (by decide)) (es1.1 2 (by decide) (by decide))
  have hFs1 := hF.em es1
  have hCs1 : LCd (tE ++ [(15, 0)]) s1 := es1.2.2
  refine g_pure 2 (i' := 10) (lv' := [some (vR 5), some (vI (nI g)), some (vI (nI o)), some (vI (nI i + 1))]) (st' := []) rfl ?_
  refine gW_eq (lv' := [some (vR 5), some (vI (nI g)), some (vI (nI o)), some (vI (nI (i + 1)))]) (st' := []) (by rw [(show (nI i + 1) = nI (i + 1) from ((g_add (rfl : nI i = nI i) (show (1 : Int32) = nI 1 from rfl))).trans (congrArg nI (by omega)))]) rfl rfl ?_
  exact o2 s1 es1 hTs1 hCs1 hFs1

theorem b_51_30 {X : Nat × (Nat → Int32)} {d : Nat} {p : Nat → Nat} {sg : Mg} {Q : am_R → Prop} {T : Nat → Int32} {tn tk : Nat} {tE : LE} (hT : CT T tn tk sg) (hC : LCd tE sg) {sg0 : Mg} (hF : FL sg0 sg) {g : Nat} {o : Nat} {z3 : Option AV} (u_g : g ≤ 6) (u_o : o ≤ 400)
    (o1 : (o ≤ 0) → (dcN (isW T tn tk (am_SL 36)) = true) → ∀ s3 : Mg, (CT T tn (nxK T tn tk) s3 ∧ CN sg s3) → CT T tn (nxK T tn tk) s3 → LCd tE s3 → FL sg0 s3 → gW X (d + 4) k_51 2 [some (vR 5), some (vI (nI g)), some (vI (nI (o + 1))), z3] [] p s3 Q)
    (o2 : (o ≤ 0) → (¬ (dcN (isW T tn tk (am_SL 36)) = true)) → CT T tn tk sg → LCd tE sg → FL sg0 sg → Q (gR0 p sg))
    (o3 : (¬ (o ≤ 0)) → tE.length < 400)
    (o4 : (¬ (o ≤ 0)) → ∀ s4 : Mg, (EM (16, 0) tE sg s4) → (dcN (isW T tn tk (am_SL 36)) = true) → ∀ s6 : Mg, (CT T tn (nxK T tn tk) s6 ∧ CN s4 s6) → CT T tn (nxK T tn tk) s6 → LCd (tE ++ [(16, 0)]) s6 → FL sg0 s6 → gW X (d + 4) k_51 2 [some (vR 5), some (vI (nI g)), some (vI (nI (o + 1))), z3] [] p s6 Q)
    (o5 : (¬ (o ≤ 0)) → ∀ s4 : Mg, (EM (16, 0) tE sg s4) → (¬ (dcN (isW T tn tk (am_SL 36)) = true)) → CT T tn tk s4 → LCd (tE ++ [(16, 0)]) s4 → FL sg0 s4 → Q (gR0 p s4)) :
    gW X (d + 4) k_51 30 [some (vR 5), some (vI (nI g)), some (vI (nI o)), z3] [] p sg Q := by
  refine g_pure 1 (i' := 31) (lv' := [some (vR 5), some (vI (nI g)), some (vI (nI o)), z3]) (st' := [vI (nI o)]) rfl ?_
  refine g_if1 (i' := 36) (P := o ≤ 0) rfl rfl (g_leN (show nI o = nI o from (rfl : nI o = nI o)) (show 0 = nI 0 from (show (0 : Int32) = nI 0 from rfl)) (by omega) (by omega)) (fun h1 => ?_) (fun h1 => ?_)
  · refine g_pure 3 (i' := 39) (lv' := [some (vR 5), some (vI (nI g)), some (vI (nI o)), z3]) (st' := [vS 36, vR 1]) rfl ?_
    refine g_cV1 rfl (args := [vR 1, vS 36]) (rest := []) rfl rfl rfl (s_74 (d := d + 3) (by decide) hT) ?_
    refine g_if1 (i' := 42) (P := dcN (isW T tn tk (am_SL 36)) = true) rfl rfl g_neB (fun h2 => ?_) (fun h2 => ?_)
    · refine g_pure 2 (i' := 44) (lv' := [some (vR 5), some (vI (nI g)), some (vI (nI o)), z3]) (st' := [vR 1]) rfl ?_
      refine g_cV0E rfl (args := [vR 1]) (rest := []) rfl rfl rfl (s_70 (d := d + 3) hT) (fun s3 es3 => ?_)
      have hTs3 := es3.1
      have hFs3 := hF.cn es3.2
      have hCs3 : LCd tE s3 := hC.cn es3.2
      refine g_pure 2 (i' := 2) (lv' := [some (vR 5), some (vI (nI g)), some (vI (nI o + 1)), z3]) (st' := []) rfl ?_
      refine gW_eq (lv' := [some (vR 5), some (vI (nI g)), some (vI (nI (o + 1))), z3]) (st' := []) (by rw [(show (nI o + 1) = nI (o + 1) from ((g_add (rfl : nI o = nI o) (show (1 : Int32) = nI 1 from rfl))).trans (congrArg nI (by omega)))]) rfl rfl ?_
      exact o1 h1 h2 s3 es3 hTs3 hCs3 hFs3
    · refine g_vret rfl ?_
      exact o2 h1 h2 hT hC hF
  · refine g_pure 3 (i' := 35) (lv' := [some (vR 5), some (vI (nI g)), some (vI (nI o)), z3]) (st' := [vI 1015, vR 308]) rfl ?_
    refine g_cV0E rfl (args := [vR 308, vI 1015]) (rest := []) rfl rfl rfl (s_42 (d := d + 3) (q := (16, 0)) hC (o3 h1) (show (1015 : Int32) = cdL (16, 0) from by decide +kernel)) (fun s4 es4 => ?_)
    have hTs4 := hT.eq (es4.1 1 (by decide) (by decide)) (es4.1 2 (by decide) (by decide))
    have hFs4 := hF.em es4
    have hCs4 : LCd (tE ++ [(16, 0)]) s4 := es4.2.2
    refine g_pure 3 (i' := 39) (lv' := [some (vR 5), some (vI (nI g)), some (vI (nI o)), z3]) (st' := [vS 36, vR 1]) rfl ?_
    refine g_cV1 rfl (args := [vR 1, vS 36]) (rest := []) rfl rfl rfl (s_74 (d := d + 3) (by decide) hTs4) ?_
    refine g_if1 (i' := 42) (P := dcN (isW T tn tk (am_SL 36)) = true) rfl rfl g_neB (fun h5 => ?_) (fun h5 => ?_)
    · refine g_pure 2 (i' := 44) (lv' := [some (vR 5), some (vI (nI g)), some (vI (nI o)), z3]) (st' := [vR 1]) rfl ?_
      refine g_cV0E rfl (args := [vR 1]) (rest := []) rfl rfl rfl (s_70 (d := d + 3) hTs4) (fun s6 es6 => ?_)
      have hTs6 := es6.1
      have hFs6 := hFs4.cn es6.2
      have hCs6 : LCd (tE ++ [(16, 0)]) s6 := hCs4.cn es6.2
      refine g_pure 2 (i' := 2) (lv' := [some (vR 5), some (vI (nI g)), some (vI (nI o + 1)), z3]) (st' := []) rfl ?_
      refine gW_eq (lv' := [some (vR 5), some (vI (nI g)), some (vI (nI (o + 1))), z3]) (st' := []) (by rw [(show (nI o + 1) = nI (o + 1) from ((g_add (rfl : nI o = nI o) (show (1 : Int32) = nI 1 from rfl))).trans (congrArg nI (by omega)))]) rfl rfl ?_
      exact o4 h1 s4 es4 h5 s6 es6 hTs6 hCs6 hFs6
    · refine g_vret rfl ?_
      exact o5 h1 s4 es4 h5 hTs4 hCs4 hFs4

/-- an atom is read so at this depth -/
def AtC (X : Nat × (Nat → Int32)) (p : Nat → Nat) (T : Nat → Int32) (n dA g : Nat) (A : Nat → LE → LR) : Prop := ∀ (sg : Mg) (k : Nat) (E : LE), CT T n k sg → LCd E sg → E.length + 1 ≤ k → gF X dA 52 [vR 5, vI (nI g)] p sg (lnL (A k E) T n sg p)
section
variable {X : Nat × (Nat → Int32)} {d : Nat} {p : Nat → Nat} {sg0 : Mg} {T : Nat → Int32} {n g : Nat} {A : Nat → LE → LR}
theorem l_51a (hA : ∀ k, k ≤ n → ∀ E, LG n k E (A k E)) (hg : g ≤ 6) (hC : AtC X p T n (d + 4) g A) {o : Nat} (ho : o ≤ 400) {Q : am_R → Prop} : ∀ (f i k : Nat) (E : LE) (s : Mg), f + i = 401 → 2 * i + 1 ≤ k → E.length + 1 ≤ k → CT T n k s → LCd E s → FL sg0 s →
    (∀ k2 E2 s2 z, pAnd T n A f k E = .inr (k2, E2) → CT T n k2 s2 → LCd E2 s2 → FL sg0 s2 → gW X (d + 4) k_51 30 [some (vR 5), some (vI (nI g)), some (vI (nI o)), z] [] p s2 Q) → (∀ e r, pAnd T n A f k E = .inl e → LFl e sg0 p r → Q r) →
    gW X (d + 4) k_51 10 [some (vR 5), some (vI (nI g)), some (vI (nI o)), some (vI (nI i))] [] p s Q
  | 0, i, k, E, s, hf, hi, hE, hT, hCd, hF, go, bad => by
    have hk := hT.1
    have hn := hT.2.1
    omega
  | f + 1, i, k, E, s, hf, hi, hE, hT, hCd, hF, go, bad => by
    have hk := hT.1
    have hn := hT.2.1
    refine b_51_10 (d := d) hT hCd hF hg ho (by omega) (fun h => by omega) (fun _ c cT cC cF => ?_) (fun _ c s3 e3 cT cC cF => ?_)
    · exact go k E s _ (sel_f (dcN_n.mp c)) cT cC cF
    · have c := dcN_i.mp c
      have g1 := nx_w hk (by decide) c
      have e0 : pAnd T n A (f + 1) k E = bnL (A (nxK T n k) E) (fun k2 E2 => pAnd T n A f k2 (E2 ++ [(15, 0)])) := sel_t c
      refine lnL_call rfl (args := [vR 5, vI (nI g)]) (rest := []) rfl rfl (Nat.zero_le _) cF (hC s3 (nxK T n k) E cT cC (by omega)) (fun e r he hr => bad e r (by rw [e0, bnL_l he]) hr) (fun q s4 hq hF4 hT4 hC4 => ?_)
      have g2 := hA _ g1.2.1 E q.1 q.2 hq
      refine b_51_24 (d := d) hT4 hC4 hF4 hg ho (by omega) (by omega) (fun s5 e5 cT5 cC5 cF5 => ?_)
      have e1 : pAnd T n A (f + 1) k E = pAnd T n A f q.1 (q.2 ++ [(15, 0)]) := by rw [e0, bnL_r (k := q.1) (E := q.2) hq]
      exact l_51a hA hg hC ho f (i + 1) q.1 _ s5 (by omega) (by omega) (by rw [List.length_append]; show q.2.length + 1 + 1 ≤ _; omega) cT5 cC5 cF5 (fun k2 E2 s2 z h => go k2 E2 s2 z (e1.trans h)) (fun e r h => bad e r (e1.trans h))
theorem all_51 (hA : ∀ k, k ≤ n → ∀ E, LG n k E (A k E)) (hg : g ≤ 6) (hC : AtC X p T n (d + 4) g A) {o : Nat} (ho : o < 400) {f : Nat → LE → LR} {k : Nat} {E : LE} {s : Mg} {z : Option AV} (hE : E.length + 1 ≤ k) (hT : CT T n k s) (hCd : LCd E s) (hF : FL sg0 s)
    (go : ∀ k2 E2 s2 z, pAll T n A k E = .inr (k2, E2) → CT T n k2 s2 → LCd E2 s2 → FL sg0 s2 → gW X (d + 4) k_51 30 [some (vR 5), some (vI (nI g)), some (vI (nI o)), z] [] p s2 (lnL (f k2 E2) T n sg0 p)) : gW X (d + 4) k_51 2 [some (vR 5), some (vI (nI g)), some (vI (nI o)), z] [] p s (lnL (bnL (pAll T n A k E) f) T n sg0 p) := by
  have hk := hT.1
  have hn := hT.2.1
  refine g_pure 2 (i' := 4) (lv' := [some (vR 5), some (vI (nI g)), some (vI (nI o)), z]) (st' := [vI (nI 400), vI (nI o)]) rfl ?_
  refine g_if2 (i' := 47) (P := 400 ≤ o) rfl rfl (nI_leI (by decide) (by omega)) (fun h => by omega) (fun _ => ?_)
  refine g_pure 2 (i' := 7) (lv' := [some (vR 5), some (vI (nI g)), some (vI (nI o)), z]) (st' := [vI (nI g), vR 5]) rfl ?_
  have e0 : pAll T n A k E = bnL (A k E) (fun k1 E1 => pAnd T n A 401 k1 E1) := rfl
  refine lnL_call rfl (args := [vR 5, vI (nI g)]) (rest := []) rfl rfl (Nat.zero_le _) hF (hC s k E hT hCd hE) (fun e r he hr => ?_) (fun q s4 hq hF4 hT4 hC4 => ?_)
  · rw [e0, bnL_l he, bnL_l rfl]
    exact hr
  · have g2 := hA _ hk E q.1 q.2 hq
    have e1 : pAll T n A k E = pAnd T n A 401 q.1 q.2 := by rw [e0, bnL_r (k := q.1) (E := q.2) hq]
    refine g_pure 2 (i' := 10) (lv' := [some (vR 5), some (vI (nI g)), some (vI (nI o)), some (vI (nI 0))]) (st' := []) rfl ?_
    refine l_51a hA hg hC (by omega) 401 0 q.1 q.2 s4 rfl (by omega) (by omega) hT4 hC4 hF4 (fun k2 E2 s2 z h cT cC cF => ?_) (fun e r h hr => ?_)
    · rw [bnL_r (e1.trans h)]
      exact go k2 E2 s2 z (e1.trans h) cT cC cF
    · rw [bnL_l (e1.trans h)]
      exact hr
theorem l_51o (hA : ∀ k, k ≤ n → ∀ E, LG n k E (A k E)) (hg : g ≤ 6) (hC : AtC X p T n (d + 4) g A) : ∀ (f o k : Nat) (E : LE) (s : Mg) (z : Option AV), f + o = 401 → 2 * o + 1 ≤ k → E.length + 1 ≤ k → CT T n k s → LCd E s → FL sg0 s → gW X (d + 4) k_51 30 [some (vR 5), some (vI (nI g)), some (vI (nI o)), z] [] p s (lnL (pOr T n A f k (if o = 0 then E else E ++ [(16, 0)])) T n sg0 p)
  | 0, o, k, E, s, z, hf, hi, hE, hT, hCd, hF => by
    have hk := hT.1
    have hn := hT.2.1
    omega
  | f + 1, o, k, E, s, z, hf, hi, hE, hT, hCd, hF => by
    have hk := hT.1
    have hn := hT.2.1
    have more : ∀ E3 s3 z3, (E3.length ≤ E.length + 1) → isW T n k (am_SL 36) → CT T n (nxK T n k) s3 → LCd E3 s3 → FL sg0 s3 → gW X (d + 4) k_51 2 [some (vR 5), some (vI (nI g)), some (vI (nI (o + 1))), z3] [] p s3 (lnL (pOr T n A (f + 1) k E3) T n sg0 p) := fun E3 s3 z3 h3 c cT cC cF => by
      have g1 := nx_w hk (by decide) c
      rw [show pOr T n A (f + 1) k E3 = bnL (pAll T n A (nxK T n k) E3) (fun k2 E2 => pOr T n A f k2 (E2 ++ [(16, 0)])) from sel_t c]
      refine all_51 hA hg hC (by omega) (by omega) cT cC cF (fun k2 E2 s2 z e hT2 hC2 hF2 => ?_)
      have g2 := pAll_g hA g1.2.1 E3 _ _ e
      have := l_51o hA hg hC f (o + 1) k2 E2 s2 z (by omega) (by omega) (by omega) hT2 hC2 hF2
      rw [if_neg (by omega)] at this
      exact this
    have stop : ∀ E3 s3, ¬ isW T n k (am_SL 36) → CT T n k s3 → LCd E3 s3 → FL sg0 s3 → lnL (pOr T n A (f + 1) k E3) T n sg0 p (gR0 p s3) := fun E3 s3 c cT cC cF => by
      rw [show pOr T n A (f + 1) k E3 = .inr (k, E3) from sel_f c]
      exact ⟨s3, ⟨cF, cT, cC⟩, rfl⟩
    refine b_51_30 (d := d) hT hCd hF hg (by omega) (fun h0 c s3 e3 cT cC cF => ?_) (fun h0 c cT cC cF => ?_) (fun h0 => by omega) (fun h0 s4 e4 c s6 e6 cT cC cF => ?_) (fun h0 s4 e4 c cT cC cF => ?_)
    · rw [if_pos (by omega)]
      exact more E s3 _ (by omega) (dcN_i.mp c) cT cC cF
    · rw [if_pos (by omega)]
      exact stop E s (dcN_n.mp c) cT cC cF
    · rw [if_neg (by omega)]
      exact more _ s6 _ (by rw [List.length_append]; exact Nat.le_refl _) (dcN_i.mp c) cT cC cF
    · rw [if_neg (by omega)]
      exact stop _ s4 (dcN_n.mp c) cT cC cF
theorem s_51 {sg : Mg} {k : Nat} {E : LE} (hA : ∀ k, k ≤ n → ∀ E, LG n k E (A k E)) (hg : g ≤ 6) (hC : AtC X p T n (d + 4) g A) (hT : CT T n k sg) (hCd : LCd E sg) (hE : E.length + 1 ≤ k) : gF X (d + 5) 51 [vR 5, vI (nI g)] p sg (lnL (pCnd T n A k E) T n sg p) := by
  refine g_in (cd := k_51) (nL := 4) (rc := 6) rfl (g_A (a := 5) (kd := 0) (n := 5) rfl (by decide)) (g_c1 rfl) ?_
  show gW X (d + 4) k_51 0 [some (vR 5), some (vI (nI g)), none, none] [] p sg _
  refine g_pure 2 (i' := 2) (lv' := [some (vR 5), some (vI (nI g)), some (vI (nI 0)), none]) (st' := []) rfl ?_
  refine all_51 (f := fun k1 E1 => pOr T n A 401 k1 E1) hA hg hC (by decide) hE hT hCd (FL.rf sg) (fun k2 E2 s2 z e hT2 hC2 hF2 => ?_)
  have g2 := pAll_g hA hT.1 E _ _ e
  exact l_51o hA hg hC 401 0 k2 E2 s2 z rfl (by omega) (by omega) hT2 hC2 hF2
end
