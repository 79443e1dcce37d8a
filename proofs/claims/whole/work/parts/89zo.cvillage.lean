/-! COUNTRY: village, misprint, and which line it is, in the class (made by wip/whole/gen89zo.py) -/
theorem b_23_0 {X : Nat × (Nat → Int32)} {d : Nat} {p : Nat → Nat} {sg : Mg} {Q : am_R → Prop} {B : Nat} {S : Nat → Int32} (hI : Inv B S) (hL : cwL 350 sg S) (hD : cwD 300 sg S) {T : Nat → Int32} {tn tk : Nat} (hT : CT T tn tk sg) {sg0 : Mg} (hF : FRc sg0 sg)
    (o1 : ∀ s1 : Mg, (CT T tn (nxK T tn tk) s1 ∧ CN sg s1) → (tkP T tn (nxK T tn tk) 4 0 (sn S 0)) → ∀ s3 : Mg, (CT T tn (nxK T tn (nxK T tn tk)) s3 ∧ CN s1 s3) → (tkP T tn (nxK T tn (nxK T tn tk)) 4 0 (sn S 9)) → ∀ s6 : Mg, (CT T tn (nxK T tn (nxK T tn (nxK T tn tk))) s6 ∧ CN s3 s6) → (tkP T tn (nxK T tn (nxK T tn (nxK T tn tk))) 4 0 (sn S 9)) → ∀ s10 : Mg, (CT T tn (nxK T tn (nxK T tn (nxK T tn (nxK T tn tk)))) s10 ∧ CN s6 s10) → (nI (pgf S (numK T tn (nxK T tn tk)) (numK T tn (nxK T tn (nxK T tn tk)))) = (-1)) → CT T tn (nxK T tn (nxK T tn (nxK T tn (nxK T tn tk)))) s10 → FRc sg0 s10 → cwL 350 s10 S → cwD 300 s10 S → Q (gR0 p s10))
    (o2 : ∀ s1 : Mg, (CT T tn (nxK T tn tk) s1 ∧ CN sg s1) → (tkP T tn (nxK T tn tk) 4 0 (sn S 0)) → ∀ s3 : Mg, (CT T tn (nxK T tn (nxK T tn tk)) s3 ∧ CN s1 s3) → (tkP T tn (nxK T tn (nxK T tn tk)) 4 0 (sn S 9)) → ∀ s6 : Mg, (CT T tn (nxK T tn (nxK T tn (nxK T tn tk))) s6 ∧ CN s3 s6) → (tkP T tn (nxK T tn (nxK T tn (nxK T tn tk))) 4 0 (sn S 9)) → ∀ s10 : Mg, (CT T tn (nxK T tn (nxK T tn (nxK T tn (nxK T tn tk)))) s10 ∧ CN s6 s10) → (¬ (nI (pgf S (numK T tn (nxK T tn tk)) (numK T tn (nxK T tn (nxK T tn tk)))) = (-1))) → (nI (pgf S (numK T tn (nxK T tn tk)) (numK T tn (nxK T tn (nxK T tn (nxK T tn tk))))) = (-1)) → CT T tn (nxK T tn (nxK T tn (nxK T tn (nxK T tn tk)))) s10 → FRc sg0 s10 → cwL 350 s10 S → cwD 300 s10 S → Q (gR0 p s10))
    (o3 : ∀ s1 : Mg, (CT T tn (nxK T tn tk) s1 ∧ CN sg s1) → (tkP T tn (nxK T tn tk) 4 0 (sn S 0)) → ∀ s3 : Mg, (CT T tn (nxK T tn (nxK T tn tk)) s3 ∧ CN s1 s3) → (tkP T tn (nxK T tn (nxK T tn tk)) 4 0 (sn S 9)) → ∀ s6 : Mg, (CT T tn (nxK T tn (nxK T tn (nxK T tn tk))) s6 ∧ CN s3 s6) → (tkP T tn (nxK T tn (nxK T tn (nxK T tn tk))) 4 0 (sn S 9)) → ∀ s10 : Mg, (CT T tn (nxK T tn (nxK T tn (nxK T tn (nxK T tn tk)))) s10 ∧ CN s6 s10) → (¬ (nI (pgf S (numK T tn (nxK T tn tk)) (numK T tn (nxK T tn (nxK T tn tk)))) = (-1))) → (¬ (nI (pgf S (numK T tn (nxK T tn tk)) (numK T tn (nxK T tn (nxK T tn (nxK T tn tk))))) = (-1))) → CT T tn (nxK T tn (nxK T tn (nxK T tn (nxK T tn tk)))) s10 → FRc sg0 s10 → cwL 350 s10 S → cwD 300 s10 S → gW X (d + 4) k_23 27 [some (vR 4), some (vI (nI (numK T tn (nxK T tn tk)))), some (vI (nI (pgf S (numK T tn (nxK T tn tk)) (numK T tn (nxK T tn (nxK T tn tk)))))), some (vI (nI (pgf S (numK T tn (nxK T tn tk)) (numK T tn (nxK T tn (nxK T tn (nxK T tn tk)))))))] [] p s10 Q)
    (o4 : ∀ s1 : Mg, (CT T tn (nxK T tn tk) s1 ∧ CN sg s1) → (tkP T tn (nxK T tn tk) 4 0 (sn S 0)) → ∀ s3 : Mg, (CT T tn (nxK T tn (nxK T tn tk)) s3 ∧ CN s1 s3) → (tkP T tn (nxK T tn (nxK T tn tk)) 4 0 (sn S 9)) → ∀ s6 : Mg, (CT T tn (nxK T tn (nxK T tn (nxK T tn tk))) s6 ∧ CN s3 s6) → (¬ tkP T tn (nxK T tn (nxK T tn (nxK T tn tk))) 4 0 (sn S 9)) → ∀ s15 : Mg, (CF (spK T tn (nxK T tn (nxK T tn (nxK T tn tk)))) s6 s15) → CT T tn (nxK T tn (nxK T tn (nxK T tn tk))) s6 → FRc sg0 s6 → cwL 350 s6 S → cwD 300 s6 S → Q (gRx p s15 0))
    (o5 : ∀ s1 : Mg, (CT T tn (nxK T tn tk) s1 ∧ CN sg s1) → (tkP T tn (nxK T tn tk) 4 0 (sn S 0)) → ∀ s3 : Mg, (CT T tn (nxK T tn (nxK T tn tk)) s3 ∧ CN s1 s3) → (¬ tkP T tn (nxK T tn (nxK T tn tk)) 4 0 (sn S 9)) → ∀ s16 : Mg, (CF (spK T tn (nxK T tn (nxK T tn tk))) s3 s16) → CT T tn (nxK T tn (nxK T tn tk)) s3 → FRc sg0 s3 → cwL 350 s3 S → cwD 300 s3 S → Q (gRx p s16 0))
    (o6 : ∀ s1 : Mg, (CT T tn (nxK T tn tk) s1 ∧ CN sg s1) → (¬ tkP T tn (nxK T tn tk) 4 0 (sn S 0)) → ∀ s17 : Mg, (CF (spK T tn (nxK T tn tk)) s1 s17) → CT T tn (nxK T tn tk) s1 → FRc sg0 s1 → cwL 350 s1 S → cwD 300 s1 S → Q (gRx p s17 0)) :
    gW X (d + 4) k_23 0 [some (vR 4), none, none, none] [] p sg Q := by
  have b0 := hI.b0; have b1 := hI.b1; have b2 := hI.b2; have b3 := hI.b3; have b4 := hI.b4; have b5 := hI.b5; have b6 := hI.b6; have b7 := hI.b7; have b8 := hI.b8; have b9 := hI.b9; have b14 := hI.b14
  refine g_pure 2 (i' := 2) (lv' := [some (vR 4), none, none, none]) (st' := [vR 1]) rfl ?_
  refine g_cV0E rfl (args := [vR 1]) (rest := []) rfl rfl rfl (s_70 (d := d + 3) hT) (fun s1 es1 => ?_)
  have hTs1 := es1.1
  have hFs1 := hF.cn es1.2
  have hLs1 : cwL 350 s1 S := hL.eqc (fun c c1 c2 => es1.2.1 c (by omega))
  have hDs1 : cwD 300 s1 S := hD.eqc (fun c c1 => es1.2.1 c (by omega))
  refine g_pure 2 (i' := 5) (lv' := [some (vR 4), none, none, none]) (st' := [vI 0, vR 4]) rfl ?_
  by_cases h2 : tkP T tn (nxK T tn tk) 4 0 (sn S 0)
  · refine gW_eq (st' := [vI (nI 0), vR 4]) rfl (by rw [(show (0 : Int32) = nI 0 from rfl)]) rfl ?_
    refine g_cV1E rfl (args := [vR 4, vI (nI 0)]) (rest := []) rfl rfl rfl (s_15a (d := d + 1) hTs1 (((hDs1.cnt (by decide))).trans (hI.c0)) (by omega) (by omega) (by assumption)) (fun s3 es3 => ?_)
    have hTs3 := es3.1
    have hFs3 := hFs1.cn es3.2
    have hLs3 : cwL 350 s3 S := hLs1.eqc (fun c c1 c2 => es3.2.1 c (by omega))
    have hDs3 : cwD 300 s3 S := hDs1.eqc (fun c c1 => es3.2.1 c (by omega))
    have t4 := (show tkP T tn (nxK T tn tk) 4 0 (sn S 0) by assumption).2.2.2
    refine g_pure 5 (i' := 11) (lv' := [some (vR 4), some (vI (nI (numK T tn (nxK T tn tk)))), none, none]) (st' := [vR 4, vI (nI (numK T tn (nxK T tn tk))), vR 300]) rfl ?_
    by_cases h5 : tkP T tn (nxK T tn (nxK T tn tk)) 4 0 (sn S 9)
    · refine g_cV1E rfl (args := [vR 4]) (rest := [vI (nI (numK T tn (nxK T tn tk))), vR 300]) rfl rfl rfl (s_13a (d := d + 1) hTs3 ((hDs3.f5).trans (hI.c9)) (by omega) (by assumption)) (fun s6 es6 => ?_)
      have hTs6 := es6.1
      have hFs6 := hFs3.cn es6.2
      have hLs6 : cwL 350 s6 S := hLs3.eqc (fun c c1 c2 => es6.2.1 c (by omega))
      have hDs6 : cwD 300 s6 S := hDs3.eqc (fun c c1 => es6.2.1 c (by omega))
      have t7 := (show tkP T tn (nxK T tn (nxK T tn tk)) 4 0 (sn S 9) by assumption).2.2.2
      refine g_cV1 rfl (args := [vR 300, vI (nI (numK T tn (nxK T tn tk))), vI (nI (numK T tn (nxK T tn (nxK T tn tk))))]) (rest := []) rfl rfl rfl (s_109s (d := d + 3) hI hLs6 hDs6 (by omega) (by omega)) ?_
      have t8 := (pgf_ok hI (v := (numK T tn (nxK T tn tk))) (e := (numK T tn (nxK T tn (nxK T tn tk)))) (by omega) (by omega)).1
      refine g_pure 5 (i' := 18) (lv' := [some (vR 4), some (vI (nI (numK T tn (nxK T tn tk)))), some (vI (nI (pgf S (numK T tn (nxK T tn tk)) (numK T tn (nxK T tn (nxK T tn tk)))))), none]) (st' := [vR 4, vI (nI (numK T tn (nxK T tn tk))), vR 300]) rfl ?_
      by_cases h9 : tkP T tn (nxK T tn (nxK T tn (nxK T tn tk))) 4 0 (sn S 9)
      · refine g_cV1E rfl (args := [vR 4]) (rest := [vI (nI (numK T tn (nxK T tn tk))), vR 300]) rfl rfl rfl (s_13a (d := d + 1) hTs6 ((hDs6.f5).trans (hI.c9)) (by omega) (by assumption)) (fun s10 es10 => ?_)
        have hTs10 := es10.1
        have hFs10 := hFs6.cn es10.2
        have hLs10 : cwL 350 s10 S := hLs6.eqc (fun c c1 c2 => es10.2.1 c (by omega))
        have hDs10 : cwD 300 s10 S := hDs6.eqc (fun c c1 => es10.2.1 c (by omega))
        have t11 := (show tkP T tn (nxK T tn (nxK T tn (nxK T tn tk))) 4 0 (sn S 9) by assumption).2.2.2
        refine g_cV1 rfl (args := [vR 300, vI (nI (numK T tn (nxK T tn tk))), vI (nI (numK T tn (nxK T tn (nxK T tn (nxK T tn tk)))))]) (rest := []) rfl rfl rfl (s_109s (d := d + 3) hI hLs10 hDs10 (by omega) (by omega)) ?_
        have t12 := (pgf_ok hI (v := (numK T tn (nxK T tn tk))) (e := (numK T tn (nxK T tn (nxK T tn (nxK T tn tk))))) (by omega) (by omega)).1
        refine g_pure 3 (i' := 23) (lv' := [some (vR 4), some (vI (nI (numK T tn (nxK T tn tk)))), some (vI (nI (pgf S (numK T tn (nxK T tn tk)) (numK T tn (nxK T tn (nxK T tn tk)))))), some (vI (nI (pgf S (numK T tn (nxK T tn tk)) (numK T tn (nxK T tn (nxK T tn (nxK T tn tk)))))))]) (st' := [vI (-1), vI (nI (pgf S (numK T tn (nxK T tn tk)) (numK T tn (nxK T tn (nxK T tn tk)))))]) rfl ?_
        refine g_if2 (i' := 33) (P := nI (pgf S (numK T tn (nxK T tn tk)) (numK T tn (nxK T tn (nxK T tn tk)))) = (-1)) rfl rfl Iff.rfl (fun h13 => ?_) (fun h13 => ?_)
        · refine g_vret rfl ?_
          exact o1 s1 es1 h2 s3 es3 h5 s6 es6 h9 s10 es10 h13 hTs10 hFs10 hLs10 hDs10
        · refine g_pure 2 (i' := 26) (lv' := [some (vR 4), some (vI (nI (numK T tn (nxK T tn tk)))), some (vI (nI (pgf S (numK T tn (nxK T tn tk)) (numK T tn (nxK T tn (nxK T tn tk)))))), some (vI (nI (pgf S (numK T tn (nxK T tn tk)) (numK T tn (nxK T tn (nxK T tn (nxK T tn tk)))))))]) (st' := [vI (-1), vI (nI (pgf S (numK T tn (nxK T tn tk)) (numK T tn (nxK T tn (nxK T tn (nxK T tn tk))))))]) rfl ?_
          refine g_if2 (i' := 33) (P := nI (pgf S (numK T tn (nxK T tn tk)) (numK T tn (nxK T tn (nxK T tn (nxK T tn tk))))) = (-1)) rfl rfl Iff.rfl (fun h14 => ?_) (fun h14 => ?_)
          · refine g_vret rfl ?_
            exact o2 s1 es1 h2 s3 es3 h5 s6 es6 h9 s10 es10 h13 h14 hTs10 hFs10 hLs10 hDs10
          · exact o3 s1 es1 h2 s3 es3 h5 s6 es6 h9 s10 es10 h13 h14 hTs10 hFs10 hLs10 hDs10
      · refine g_cVxE rfl (args := [vR 4]) (rest := [vI (nI (numK T tn (nxK T tn tk))), vR 300]) rfl rfl rfl (s_13b (d := d + 1) hTs6 ((hDs6.f5).trans (hI.c9)) (by omega) (by assumption)) (fun s15 es15 => ?_)
        exact o4 s1 es1 h2 s3 es3 h5 s6 es6 h9 s15 es15 hTs6 hFs6 hLs6 hDs6
    · refine g_cVxE rfl (args := [vR 4]) (rest := [vI (nI (numK T tn (nxK T tn tk))), vR 300]) rfl rfl rfl (s_13b (d := d + 1) hTs3 ((hDs3.f5).trans (hI.c9)) (by omega) (by assumption)) (fun s16 es16 => ?_)
      exact o5 s1 es1 h2 s3 es3 h5 s16 es16 hTs3 hFs3 hLs3 hDs3
  · refine gW_eq (st' := [vI (nI 0), vR 4]) rfl (by rw [(show (0 : Int32) = nI 0 from rfl)]) rfl ?_
    refine g_cVxE rfl (args := [vR 4, vI (nI 0)]) (rest := []) rfl rfl rfl (s_15b (d := d + 1) hTs1 (((hDs1.cnt (by decide))).trans (hI.c0)) (by omega) (by omega) (by assumption)) (fun s17 es17 => ?_)
    exact o6 s1 es1 h2 s17 es17 hTs1 hFs1 hLs1 hDs1

theorem b_10_0 {X : Nat × (Nat → Int32)} {d : Nat} {p : Nat → Nat} {sg : Mg} {Q : am_R → Prop} {B : Nat} {S : Nat → Int32} (hI : Inv B S) (hL : cwL 350 sg S) (hD : cwD 300 sg S) {T : Nat → Int32} {tn tk : Nat} (hT : CT T tn tk sg) {sg0 : Mg} (hF : FRc sg0 sg)
    (o1 : (sn S 0 < 6) → ∀ s2 : Mg, (CT T tn (nxK T tn tk) s2 ∧ CN sg s2) → CT T tn (nxK T tn tk) s2 → FRc sg0 s2 → cwL 350 s2 S → cwD 300 s2 S → gW X (d + 4) k_10 9 [some (vR 4), some (vI (nI (sn S 0))), some (vI 0), some (vI 0), none] [] p s2 Q)
    (o2 : (¬ (sn S 0 < 6)) → ∀ s3 : Mg, (CF (spK T tn tk) sg s3) → CT T tn tk sg → FRc sg0 sg → cwL 350 sg S → cwD 300 sg S → Q (gRx p s3 0)) :
    gW X (d + 4) k_10 0 [some (vR 4), none, none, none, none] [] p sg Q := by
  have b0 := hI.b0; have b1 := hI.b1; have b2 := hI.b2; have b3 := hI.b3; have b4 := hI.b4; have b5 := hI.b5; have b6 := hI.b6; have b7 := hI.b7; have b8 := hI.b8; have b9 := hI.b9; have b14 := hI.b14
  refine g_pure 3 (i' := 3) (lv' := [some (vR 4), none, none, none, none]) (st' := [vI 6, vI 0, vR 4]) rfl ?_
  by_cases h1 : sn S 0 < 6
  · refine gW_eq (st' := [vI (nI 6), vI (nI 0), vR 4]) rfl (by rw [(show (0 : Int32) = nI 0 from rfl), (show (6 : Int32) = nI 6 from rfl)]) rfl ?_
    refine g_cV1E rfl (args := [vR 4, vI (nI 0), vI (nI 6)]) (rest := []) rfl rfl rfl (s_11a (d := d + 2) hT (((hD.cnt (by decide))).trans (hI.c0)) (by omega) (by omega) (by omega) (by assumption)) (fun s2 es2 => ?_)
    have hTs2 := es2.1
    have hFs2 := hF.cn es2.2
    have hLs2 : cwL 350 s2 S := hL.eqc (fun c c1 c2 => es2.2.1 c (by omega))
    have hDs2 : cwD 300 s2 S := hD.eqc (fun c c1 => es2.2.1 c (by omega))
    refine g_pure 5 (i' := 9) (lv' := [some (vR 4), some (vI (nI (sn S 0))), some (vI 0), some (vI 0), none]) (st' := []) rfl ?_
    exact o1 h1 s2 es2 hTs2 hFs2 hLs2 hDs2
  · refine gW_eq (st' := [vI (nI 6), vI (nI 0), vR 4]) rfl (by rw [(show (0 : Int32) = nI 0 from rfl), (show (6 : Int32) = nI 6 from rfl)]) rfl ?_
    refine g_cVxE rfl (args := [vR 4, vI (nI 0), vI (nI 6)]) (rest := []) rfl rfl rfl (s_11b (d := d + 2) hT (((hD.cnt (by decide))).trans (hI.c0)) (by omega) (by omega) (by omega) (by assumption)) (fun s3 es3 => ?_)
    exact o2 h1 s3 es3 hT hF hL hD

theorem b_10_9 {X : Nat × (Nat → Int32)} {d : Nat} {p : Nat → Nat} {sg : Mg} {Q : am_R → Prop} {B : Nat} {S : Nat → Int32} (hI : Inv B S) (hL : cwL 350 sg S) (hD : cwD 300 sg S) {T : Nat → Int32} {tn tk : Nat} (hT : CT T tn tk sg) {sg0 : Mg} (hF : FRc sg0 sg) {v : Nat} {w : Nat} {q : Nat} {z4 : Option AV} (u_v : v ≤ 5) (u_w : w ≤ 65535) (u_q : q ≤ 16)
    (o1 : (sn S 9 ≤ q) → CT T tn tk sg → FRc sg0 sg → cwL 350 sg S → cwD 300 sg S → gW X (d + 4) k_10 34 [some (vR 4), some (vI (nI v)), some (vI (nI w)), some (vI (nI q)), z4] [] p sg Q)
    (o2 : (¬ (sn S 9 ≤ q)) → CT T tn tk sg → FRc sg0 sg → cwL 350 sg S → cwD 300 sg S → gW X (d + 4) k_10 14 [some (vR 4), some (vI (nI v)), some (vI (nI w)), some (vI (nI q)), z4] [] p sg Q) :
    gW X (d + 4) k_10 9 [some (vR 4), some (vI (nI v)), some (vI (nI w)), some (vI (nI q)), z4] [] p sg Q := by
  have b0 := hI.b0; have b1 := hI.b1; have b2 := hI.b2; have b3 := hI.b3; have b4 := hI.b4; have b5 := hI.b5; have b6 := hI.b6; have b7 := hI.b7; have b8 := hI.b8; have b9 := hI.b9; have b14 := hI.b14
  refine g_pure 3 (i' := 12) (lv' := [some (vR 4), some (vI (nI v)), some (vI (nI w)), some (vI (nI q)), z4]) (st' := [vR 302, vI (nI q)]) rfl ?_
  refine g_getI rfl (g_A (a := 302) (kd := 0) (n := 3) rfl (by decide)) (show _ = S 9 from hD.f5) ?_
  refine g_if2 (i' := 34) (P := sn S 9 ≤ q) rfl rfl (g_geN (show nI q = nI q from (rfl : nI q = nI q)) (show S 9 = nI (sn S 9) from (hI.c9)) (by omega) (by omega)) (fun h1 => ?_) (fun h1 => ?_)
  · exact o1 h1 hT hF hL hD
  · exact o2 h1 hT hF hL hD

theorem b_10_18 {X : Nat × (Nat → Int32)} {d : Nat} {p : Nat → Nat} {sg : Mg} {Q : am_R → Prop} {B : Nat} {S : Nat → Int32} (hI : Inv B S) (hL : cwL 350 sg S) (hD : cwD 300 sg S) {T : Nat → Int32} {tn tk : Nat} (hT : CT T tn tk sg) {sg0 : Mg} (hF : FRc sg0 sg) {v : Nat} {w : Nat} {q : Nat} {y : Nat} (u_v : v ≤ 5) (u_w : w ≤ 65535) (u_q : q ≤ 15) (u_y : y ≤ 15)
    (o1 : ∀ s1 : Mg, s1 = mu sg (362 + v) q (nI y) → CT T tn tk s1 → FRc sg0 s1 → cwL 350 s1 (upd S (17 + 16 * v + q) (nI y)) → cwD 300 s1 (upd S (17 + 16 * v + q) (nI y)) → gW X (d + 4) k_10 9 [some (vR 4), some (vI (nI v)), some (vI (nI w ||| (1 <<< (nI y &&& 31)))), some (vI (nI (q + 1))), some (vI (nI y))] [] p s1 Q) :
    gW X (d + 4) k_10 18 [some (vR 4), some (vI (nI v)), some (vI (nI w)), some (vI (nI q)), some (vI (nI y))] [] p sg Q := by
  have b0 := hI.b0; have b1 := hI.b1; have b2 := hI.b2; have b3 := hI.b3; have b4 := hI.b4; have b5 := hI.b5; have b6 := hI.b6; have b7 := hI.b7; have b8 := hI.b8; have b9 := hI.b9; have b14 := hI.b14
  refine g_pure 10 (i' := 28) (lv' := [some (vR 4), some (vI (nI v)), some (vI (nI w ||| (1 <<< (nI y &&& 31)))), some (vI (nI q)), some (vI (nI y))]) (st' := [vI (nI v), vR 351]) rfl ?_
  refine g_aald rfl (Or.inl rfl) (g_A (a := 351) (kd := 5) (n := 6) rfl (by decide)) (by decide) (show nI v = nI v from (rfl : nI v = nI v)) (by omega) (gR_351 (by omega)) ?_
  refine g_pure 2 (i' := 31) (lv' := [some (vR 4), some (vI (nI v)), some (vI (nI w ||| (1 <<< (nI y &&& 31)))), some (vI (nI q)), some (vI (nI y))]) (st' := [vI (nI y), vI (nI q), vR (362 + v)]) rfl ?_
  refine g_ast rfl (gA_351 (by omega)) (by decide) (show nI q = nI q from (rfl : nI q = nI q)) (by omega) ?_
  refine g_setv (fun s1 es1 => ?_)
  have hTs1 : CT T tn tk s1 := hT.eq (by rw [es1, mu_ne (by omega)]) (by rw [es1, mu_ne (by omega)])
  have hFs1 : FRc sg0 s1 := by rw [es1]; exact hF.mu (by omega)
  have hLs1 : cwL 350 s1 (upd S (17 + 16 * v + q) (nI y)) := by rw [es1]; exact hL.wtab (by omega) (by omega)
  have hDs1 : cwD 300 s1 (upd S (17 + 16 * v + q) (nI y)) := by rw [es1]; exact hD.life (by omega) (by unfold noLand; omega)
  refine g_pure 2 (i' := 9) (lv' := [some (vR 4), some (vI (nI v)), some (vI (nI w ||| (1 <<< (nI y &&& 31)))), some (vI (nI q + 1)), some (vI (nI y))]) (st' := []) rfl ?_
  refine gW_eq (lv' := [some (vR 4), some (vI (nI v)), some (vI (nI w ||| (1 <<< (nI y &&& 31)))), some (vI (nI (q + 1))), some (vI (nI y))]) (st' := []) (by rw [(show (nI q + 1) = nI (q + 1) from ((g_add (rfl : nI q = nI q) (show (1 : Int32) = nI 1 from rfl))).trans (congrArg nI (by omega)))]) rfl rfl ?_
  exact o1 s1 es1 hTs1 hFs1 hLs1 hDs1

theorem b_10_34 {X : Nat × (Nat → Int32)} {d : Nat} {p : Nat → Nat} {sg : Mg} {Q : am_R → Prop} {B : Nat} {S : Nat → Int32} (hI : Inv B S) (hL : cwL 350 sg S) (hD : cwD 300 sg S) {T : Nat → Int32} {tn tk : Nat} (hT : CT T tn tk sg) {sg0 : Mg} (hF : FRc sg0 sg) {v : Nat} {z2 : Option AV} {z3 : Option AV} {z4 : Option AV} (u_v : v ≤ 5)
    (o1 : ∀ s1 : Mg, s1 = mu sg 303 0 (nI (sn S 0 + 1)) → CT T tn tk s1 → FRc sg0 s1 → cwL 350 s1 (upd S 0 (nI (sn S 0 + 1))) → cwD 300 s1 (upd S 0 (nI (sn S 0 + 1))) → Q (gR0 p s1)) :
    gW X (d + 4) k_10 34 [some (vR 4), some (vI (nI v)), z2, z3, z4] [] p sg Q := by
  have b0 := hI.b0; have b1 := hI.b1; have b2 := hI.b2; have b3 := hI.b3; have b4 := hI.b4; have b5 := hI.b5; have b6 := hI.b6; have b7 := hI.b7; have b8 := hI.b8; have b9 := hI.b9; have b14 := hI.b14
  refine g_pure 5 (i' := 39) (lv' := [some (vR 4), some (vI (nI v)), z2, z3, z4]) (st' := [vI 0, vR 303, vI 0, vR 303]) rfl ?_
  refine g_ald rfl (g_A (a := 303) (kd := 1) (n := 6) rfl (by decide)) (by decide) (show 0 = nI 0 from (show (0 : Int32) = nI 0 from rfl)) (by decide) (show _ = S 0 from (hD.cnt (by decide))) ?_
  refine g_pure 2 (i' := 42) (lv' := [some (vR 4), some (vI (nI v)), z2, z3, z4]) (st' := [vI (S 0 + 1), vI 0, vR 303]) rfl ?_
  refine gW_eq (lv' := [some (vR 4), some (vI (nI v)), z2, z3, z4]) (st' := [vI (nI (sn S 0 + 1)), vI 0, vR 303]) rfl (by rw [(show (S 0 + 1) = nI (sn S 0 + 1) from ((g_add (hI.c0) (show (1 : Int32) = nI 1 from rfl))).trans (congrArg nI (by omega)))]) rfl ?_
  refine g_ast rfl (g_A (a := 303) (kd := 1) (n := 6) rfl (by decide)) (by decide) (show 0 = nI 0 from (show (0 : Int32) = nI 0 from rfl)) (by decide) ?_
  refine g_setv (fun s1 es1 => ?_)
  have hTs1 : CT T tn tk s1 := hT.eq (by rw [es1, mu_ne (by omega)]) (by rw [es1, mu_ne (by omega)])
  have hFs1 : FRc sg0 s1 := by rw [es1]; exact hF.mu (by omega)
  have hLs1 : cwL 350 s1 (upd S 0 (nI (sn S 0 + 1))) := by rw [es1]; exact hL.land (by omega) (by unfold noLand; omega)
  have hDs1 : cwD 300 s1 (upd S 0 (nI (sn S 0 + 1))) := by rw [es1]; exact hD.wcnt (by decide)
  refine g_vret rfl ?_
  exact o1 s1 es1 hTs1 hFs1 hLs1 hDs1

theorem b_21_13 {X : Nat × (Nat → Int32)} {d : Nat} {p : Nat → Nat} {sg : Mg} {Q : am_R → Prop} {B : Nat} {S : Nat → Int32} (hI : Inv B S) (hL : cwL 350 sg S) (hD : cwD 300 sg S) {T : Nat → Int32} {tn tk : Nat} (hT : CT T tn tk sg) {sg0 : Mg} (hF : FRc sg0 sg)
    (o1 : ∀ s1 : Mg, (CT T tn (nxK T tn tk) s1 ∧ CN sg s1) → (tkP T tn (nxK T tn tk) 4 0 (sn S 9)) → ∀ s3 : Mg, (CT T tn (nxK T tn (nxK T tn tk)) s3 ∧ CN s1 s3) → ∀ s5 : Mg, s5 = mu s3 302 6 (S 10 ||| (1 <<< (nI (numK T tn (nxK T tn tk)) &&& 31))) → CT T tn (nxK T tn (nxK T tn tk)) s5 → FRc sg0 s5 → cwL 350 s5 (upd S 10 (S 10 ||| (1 <<< (nI (numK T tn (nxK T tn tk)) &&& 31)))) → cwD 300 s5 (upd S 10 (S 10 ||| (1 <<< (nI (numK T tn (nxK T tn tk)) &&& 31)))) → Q (gRv p s5 1))
    (o2 : ∀ s1 : Mg, (CT T tn (nxK T tn tk) s1 ∧ CN sg s1) → (¬ tkP T tn (nxK T tn tk) 4 0 (sn S 9)) → ∀ s6 : Mg, (CF (spK T tn (nxK T tn tk)) s1 s6) → CT T tn (nxK T tn tk) s1 → FRc sg0 s1 → cwL 350 s1 S → cwD 300 s1 S → Q (gRx p s6 0)) :
    gW X (d + 4) k_21 13 [some (vR 4)] [] p sg Q := by
  have b0 := hI.b0; have b1 := hI.b1; have b2 := hI.b2; have b3 := hI.b3; have b4 := hI.b4; have b5 := hI.b5; have b6 := hI.b6; have b7 := hI.b7; have b8 := hI.b8; have b9 := hI.b9; have b14 := hI.b14
  refine g_pure 2 (i' := 15) (lv' := [some (vR 4)]) (st' := [vR 1]) rfl ?_
  refine g_cV0E rfl (args := [vR 1]) (rest := []) rfl rfl rfl (s_70 (d := d + 3) hT) (fun s1 es1 => ?_)
  have hTs1 := es1.1
  have hFs1 := hF.cn es1.2
  have hLs1 : cwL 350 s1 S := hL.eqc (fun c c1 c2 => es1.2.1 c (by omega))
  have hDs1 : cwD 300 s1 S := hD.eqc (fun c c1 => es1.2.1 c (by omega))
  refine g_pure 3 (i' := 19) (lv' := [some (vR 4)]) (st' := [vR 302, vR 302]) rfl ?_
  refine g_getI rfl (g_A (a := 302) (kd := 0) (n := 3) rfl (by decide)) (show _ = S 10 from hDs1.f6) ?_
  refine g_pure 2 (i' := 22) (lv' := [some (vR 4)]) (st' := [vR 4, vI 1, vI (S 10), vR 302]) rfl ?_
  by_cases h2 : tkP T tn (nxK T tn tk) 4 0 (sn S 9)
  · refine g_cV1E rfl (args := [vR 4]) (rest := [vI 1, vI (S 10), vR 302]) rfl rfl rfl (s_13a (d := d + 1) hTs1 ((hDs1.f5).trans (hI.c9)) (by omega) (by assumption)) (fun s3 es3 => ?_)
    have hTs3 := es3.1
    have hFs3 := hFs1.cn es3.2
    have hLs3 : cwL 350 s3 S := hLs1.eqc (fun c c1 c2 => es3.2.1 c (by omega))
    have hDs3 : cwD 300 s3 S := hDs1.eqc (fun c c1 => es3.2.1 c (by omega))
    have t4 := (show tkP T tn (nxK T tn tk) 4 0 (sn S 9) by assumption).2.2.2
    refine g_pure 2 (i' := 25) (lv' := [some (vR 4)]) (st' := [vI (S 10 ||| (1 <<< (nI (numK T tn (nxK T tn tk)) &&& 31))), vR 302]) rfl ?_
    refine g_putI rfl (g_A (a := 302) (kd := 0) (n := 3) rfl (by decide)) ?_
    refine g_setv (fun s5 es5 => ?_)
    have hTs5 : CT T tn (nxK T tn (nxK T tn tk)) s5 := hTs3.eq (by rw [es5, mu_ne (by omega)]) (by rw [es5, mu_ne (by omega)])
    have hFs5 : FRc sg0 s5 := by rw [es5]; exact hFs3.mu (by omega)
    have hLs5 : cwL 350 s5 (upd S 10 (S 10 ||| (1 <<< (nI (numK T tn (nxK T tn tk)) &&& 31)))) := by rw [es5]; exact hLs3.land (by omega) (by unfold noLand; omega)
    have hDs5 : cwD 300 s5 (upd S 10 (S 10 ||| (1 <<< (nI (numK T tn (nxK T tn tk)) &&& 31)))) := by rw [es5]; exact hDs3.wfl (by decide)
    refine g_pure 2 (i' := 56) (lv' := [some (vR 4)]) (st' := [vI 1]) rfl ?_
    refine g_bret rfl g_nar1 ?_
    exact o1 s1 es1 h2 s3 es3 s5 es5 hTs5 hFs5 hLs5 hDs5
  · refine g_cVxE rfl (args := [vR 4]) (rest := [vI 1, vI (S 10), vR 302]) rfl rfl rfl (s_13b (d := d + 1) hTs1 ((hDs1.f5).trans (hI.c9)) (by omega) (by assumption)) (fun s6 es6 => ?_)
    exact o2 s1 es1 h2 s6 es6 hTs1 hFs1 hLs1 hDs1

theorem b_21_32 {X : Nat × (Nat → Int32)} {d : Nat} {p : Nat → Nat} {sg : Mg} {Q : am_R → Prop} {B : Nat} {S : Nat → Int32} (hI : Inv B S) (hL : cwL 350 sg S) (hD : cwD 300 sg S) {T : Nat → Int32} {tn tk : Nat} (hT : CT T tn tk sg) {sg0 : Mg} (hF : FRc sg0 sg)
    (o1 : ∀ s1 : Mg, (CT T tn (nxK T tn tk) s1 ∧ CN sg s1) → (tkP T tn (nxK T tn tk) 4 0 101) → ∀ s3 : Mg, (CT T tn (nxK T tn (nxK T tn tk)) s3 ∧ CN s1 s3) → ∀ s5 : Mg, s5 = mu s3 302 7 (nI (numK T tn (nxK T tn tk))) → CT T tn (nxK T tn (nxK T tn tk)) s5 → FRc sg0 s5 → cwL 350 s5 (upd S 15 (nI (numK T tn (nxK T tn tk)))) → cwD 300 s5 (upd S 15 (nI (numK T tn (nxK T tn tk)))) → Q (gRv p s5 1))
    (o2 : ∀ s1 : Mg, (CT T tn (nxK T tn tk) s1 ∧ CN sg s1) → (¬ tkP T tn (nxK T tn tk) 4 0 101) → ∀ s6 : Mg, (CF (spK T tn (nxK T tn tk)) s1 s6) → CT T tn (nxK T tn tk) s1 → FRc sg0 s1 → cwL 350 s1 S → cwD 300 s1 S → Q (gRx p s6 0)) :
    gW X (d + 4) k_21 32 [some (vR 4)] [] p sg Q := by
  have b0 := hI.b0; have b1 := hI.b1; have b2 := hI.b2; have b3 := hI.b3; have b4 := hI.b4; have b5 := hI.b5; have b6 := hI.b6; have b7 := hI.b7; have b8 := hI.b8; have b9 := hI.b9; have b14 := hI.b14
  refine g_pure 2 (i' := 34) (lv' := [some (vR 4)]) (st' := [vR 1]) rfl ?_
  refine g_cV0E rfl (args := [vR 1]) (rest := []) rfl rfl rfl (s_70 (d := d + 3) hT) (fun s1 es1 => ?_)
  have hTs1 := es1.1
  have hFs1 := hF.cn es1.2
  have hLs1 : cwL 350 s1 S := hL.eqc (fun c c1 c2 => es1.2.1 c (by omega))
  have hDs1 : cwD 300 s1 S := hD.eqc (fun c c1 => es1.2.1 c (by omega))
  refine g_pure 7 (i' := 42) (lv' := [some (vR 4)]) (st' := [vI 100, vI 0, vI 4, vR 1, vR 302]) rfl ?_
  by_cases h2 : tkP T tn (nxK T tn tk) 4 0 101
  · refine gW_eq (st' := [vI 100, vI (nI 0), vI (nI 4), vR 1, vR 302]) rfl (by rw [(show (4 : Int32) = nI 4 from rfl), (show (0 : Int32) = nI 0 from rfl)]) rfl ?_
    refine g_cV1E rfl (args := [vR 1, vI (nI 4), vI (nI 0), vI 100]) (rest := [vR 302]) rfl rfl rfl (s_77a (m := 101) (d := d + 2) hTs1 (by omega) (by omega) (by omega) (show (100 : Int32) = nI 101 - 1 from by decide) (by assumption)) (fun s3 es3 => ?_)
    have hTs3 := es3.1
    have hFs3 := hFs1.cn es3.2
    have hLs3 : cwL 350 s3 S := hLs1.eqc (fun c c1 c2 => es3.2.1 c (by omega))
    have hDs3 : cwD 300 s3 S := hDs1.eqc (fun c c1 => es3.2.1 c (by omega))
    have t4 := (show tkP T tn (nxK T tn tk) 4 0 101 by assumption).2.2
    refine g_putI rfl (g_A (a := 302) (kd := 0) (n := 3) rfl (by decide)) ?_
    refine g_setv (fun s5 es5 => ?_)
    have hTs5 : CT T tn (nxK T tn (nxK T tn tk)) s5 := hTs3.eq (by rw [es5, mu_ne (by omega)]) (by rw [es5, mu_ne (by omega)])
    have hFs5 : FRc sg0 s5 := by rw [es5]; exact hFs3.mu (by omega)
    have hLs5 : cwL 350 s5 (upd S 15 (nI (numK T tn (nxK T tn tk)))) := by rw [es5]; exact hLs3.land (by omega) (by unfold noLand; omega)
    have hDs5 : cwD 300 s5 (upd S 15 (nI (numK T tn (nxK T tn tk)))) := by rw [es5]; exact hDs3.wfl (by decide)
    refine g_pure 2 (i' := 56) (lv' := [some (vR 4)]) (st' := [vI 1]) rfl ?_
    refine g_bret rfl g_nar1 ?_
    exact o1 s1 es1 h2 s3 es3 s5 es5 hTs5 hFs5 hLs5 hDs5
  · refine gW_eq (st' := [vI 100, vI (nI 0), vI (nI 4), vR 1, vR 302]) rfl (by rw [(show (4 : Int32) = nI 4 from rfl), (show (0 : Int32) = nI 0 from rfl)]) rfl ?_
    refine g_cVxE rfl (args := [vR 1, vI (nI 4), vI (nI 0), vI 100]) (rest := [vR 302]) rfl rfl rfl (s_77b (m := 101) (d := d + 2) hTs1 (by omega) (by omega) (by omega) (show (100 : Int32) = nI 101 - 1 from by decide) (by assumption)) (fun s6 es6 => ?_)
    exact o2 s1 es1 h2 s6 es6 hTs1 hFs1 hLs1 hDs1

noncomputable def prMis (T : Nat → Int32) (n k : Nat) (S : Nat → Int32) : PRs := sel (tkP T n (nxK T n k) 4 0 (sn S 0)) (sel (tkP T n (nxK T n (nxK T n k)) 4 0 (sn S 9)) (sel (tkP T n (nxK T n (nxK T n (nxK T n k))) 4 0 (sn S 9)) (.inr (nxK T n (nxK T n (nxK T n (nxK T n k))), swS S (numK T n (nxK T n k)) (pgf S (numK T n (nxK T n k)) (numK T n (nxK T n (nxK T n k)))) (pgf S (numK T n (nxK T n k)) (numK T n (nxK T n (nxK T n (nxK T n k))))))) (.inl (spK T n (nxK T n (nxK T n (nxK T n k)))))) (.inl (spK T n (nxK T n (nxK T n k))))) (.inl (spK T n (nxK T n k)))
theorem ne_m1 {a : Nat} (h : a < 2147483648) : ¬ nI a = (-1) := fun e => by
  have := congrArg Int32.toInt e
  rw [nI_toInt h] at this
  have h9 : (a : Int) = -1 := this
  omega
theorem s_23 {X : Nat × (Nat → Int32)} {d : Nat} {p : Nat → Nat} {sg : Mg} {B : Nat} {S : Nat → Int32} (hI : Inv B S) (hL : cwL 350 sg S) (hD : cwD 300 sg S) {T : Nat → Int32} {tn tk : Nat} (hT : CT T tn tk sg) : gF X (d + 5) 23 [vR 4] p sg (lnC (prMis T tn tk S) T tn sg p) := by
  have b0 := hI.b0; have b9 := hI.b9
  refine g_in (cd := k_23) (nL := 4) (rc := 2) rfl (g_A (a := 4) (kd := 0) (n := 1) rfl (by decide)) (g_c1 rfl) (b_23_0 hI hL hD hT (FRc.rf sg) ?_ ?_ ?_ ?_ ?_ ?_)
  · intro s1 e1 h1 s3 e3 h3 s6 e6 h6 s10 e10 h7 cT cF cL cD
    exact absurd h7 (ne_m1 (by have := (pgf_ok hI (v := numK T tn (nxK T tn tk)) (e := numK T tn (nxK T tn (nxK T tn tk))) h1.2.2.2 h3.2.2.2).1; omega))
  · intro s1 e1 h1 s3 e3 h3 s6 e6 h6 s10 e10 h7 h8 cT cF cL cD
    exact absurd h8 (ne_m1 (by have := (pgf_ok hI (v := numK T tn (nxK T tn tk)) (e := numK T tn (nxK T tn (nxK T tn (nxK T tn tk)))) h1.2.2.2 h6.2.2.2).1; omega))
  · intro s1 e1 h1 s3 e3 h3 s6 e6 h6 s10 e10 h7 h8 cT cF cL cD
    have hv : numK T tn (nxK T tn tk) < sn S 0 := h1.2.2.2
    have ha := (pgf_ok hI hv h3.2.2.2).1
    have hb := (pgf_ok hI hv h6.2.2.2).1
    refine g_pure 5 (i' := 32) (lv' := [some (vR 4), some (vI (nI (numK T tn (nxK T tn tk)))), some (vI (nI (pgf S (numK T tn (nxK T tn tk)) (numK T tn (nxK T tn (nxK T tn tk)))))), some (vI (nI (pgf S (numK T tn (nxK T tn tk)) (numK T tn (nxK T tn (nxK T tn (nxK T tn tk)))))))]) (st' := [vI (nI (pgf S (numK T tn (nxK T tn tk)) (numK T tn (nxK T tn (nxK T tn (nxK T tn tk)))))), vI (nI (pgf S (numK T tn (nxK T tn tk)) (numK T tn (nxK T tn (nxK T tn tk))))), vI (nI (numK T tn (nxK T tn tk))), vR 350]) rfl ?_
    refine g_cV0E (p' := p) rfl (args := [vR 350, vI (nI (numK T tn (nxK T tn tk))), vI (nI (pgf S (numK T tn (nxK T tn tk)) (numK T tn (nxK T tn (nxK T tn tk))))), vI (nI (pgf S (numK T tn (nxK T tn tk)) (numK T tn (nxK T tn (nxK T tn (nxK T tn tk))))))]) (rest := []) rfl rfl rfl (s_56s (d := d + 3) hI cL cD (by omega) (by omega) (by omega)) (fun s hs => ?_)
    refine g_vret rfl ?_
    unfold prMis
    rw [sel_t h1, sel_t h3, sel_t h6]
    exact ⟨s, ⟨cF.tr ⟨fun c c1 c2 => hs.1 c (by omega), fun f _ _ _ => by rw [hs.1 1 (by decide)]⟩, cT.eq (hs.1 1 (by decide)) (hs.1 2 (by decide)), hs.2.1, hs.2.2⟩, rfl⟩
  · intro s1 e1 h1 s3 e3 h3 s6 e6 h6 s10 e10 cT cF cL cD
    unfold prMis
    rw [sel_t h1, sel_t h3, sel_f h6]
    exact LF.of cF e10
  · intro s1 e1 h1 s3 e3 h3 s6 e6 cT cF cL cD
    unfold prMis
    rw [sel_t h1, sel_f h3]
    exact LF.of cF e6
  · intro s1 e1 h1 s3 e3 cT cF cL cD
    unfold prMis
    rw [sel_f h1]
    exact LF.of cF e3
/-- the pages of a village -/
noncomputable def vlK (T : Nat → Int32) (n m v : Nat) : Nat → Nat → Nat → Nat → (Nat → Int32) → PRs
  | 0, _, k, _, S => .inr (k, upd S 0 (nI (v + 1)))
  | j + 1, q, k, w, S => sel (tkD T n k m w) (vlK T n m v j (q + 1) (nxK T n k) (w ||| 2 ^ numK T n k) (upd S (17 + 16 * v + q) (nI (numK T n k)))) (.inl (spK T n k))
noncomputable def prVil (T : Nat → Int32) (n k : Nat) (S : Nat → Int32) : PRs := sel (sn S 0 < 6) (vlK T n (sn S 9) (sn S 0) (sn S 9) 0 (nxK T n k) 0 S) (.inl (spK T n k))
theorem Inv.tabout {B : Nat} {S : Nat → Int32} (h : Inv B S) {v q : Nat} {x : Int32} (hv : v = sn S 0) (hv6 : v < 6) (hq : q < 16) : Inv B (upd S (17 + 16 * v + q) x) := by
  have b1 := h.b1; have b2 := h.b2; have b3 := h.b3; have b4 := h.b4; have b5 := h.b5; have b9 := h.b9
  obtain ⟨c, t, pp, f, r, dd, kk⟩ := h
  have e : ∀ j, j < 17 → sn (upd S (17 + 16 * v + q) x) j = sn S j := fun j hj => sn_upd (by omega)
  refine ⟨?_, ⟨fun v' q' hv' hq' => ?_, fun v' q' r' hv' hq' hr' => ?_⟩, fun k hk => ?_, fun k hk => ?_, fun k hk => ?_, fun k hk => ?_, fun k hk => ?_⟩
  · unfold InvC at c ⊢
    simp only [isN, e _ (show 0 < 17 by decide), e _ (show 1 < 17 by decide), e _ (show 2 < 17 by decide), e _ (show 3 < 17 by decide), e _ (show 4 < 17 by decide), e _ (show 5 < 17 by decide), e _ (show 6 < 17 by decide), e _ (show 7 < 17 by decide), e _ (show 8 < 17 by decide), e _ (show 9 < 17 by decide), e _ (show 14 < 17 by decide)] at c ⊢
    rw [upd_ne (by omega), upd_ne (by omega), upd_ne (by omega), upd_ne (by omega), upd_ne (by omega), upd_ne (by omega), upd_ne (by omega), upd_ne (by omega), upd_ne (by omega), upd_ne (by omega), upd_ne (by omega)]
    exact c
  · rw [e 0 (by decide)] at hv'
    rw [e 9 (by decide)] at hq' ⊢
    rw [isN_upd (by omega)]
    exact t.1 v' q' hv' hq'
  · rw [e 0 (by decide)] at hv'
    rw [e 9 (by decide)] at hq' hr'
    rw [sn_upd (by omega), sn_upd (by omega)]
    exact t.2 v' q' r' hv' hq' hr'
  · rw [e 1 (by decide)] at hk
    have := pp k hk
    unfold Wh at this ⊢
    rw [e 0 (by decide), e 8 (by decide), isN_upd (by omega), isN_upd (by omega), isN_upd (by omega), isN_upd (by omega), isN_upd (by omega), isN_upd (by omega), upd_ne (by omega), upd_ne (by omega), upd_ne (by omega), sn_upd (by omega)]
    exact this
  · rw [e 2 (by decide)] at hk
    rw [e 0 (by decide), e 9 (by decide), isN_upd (by omega), isN_upd (by omega)]
    exact f k hk
  · rw [e 3 (by decide)] at hk
    rw [e 0 (by decide), isN_upd (by omega), isN_upd (by omega), isN_upd (by omega), sn_upd (by omega), sn_upd (by omega), sn_upd (by omega)]
    exact r k hk
  · rw [e 4 (by decide)] at hk
    have := dd k hk
    rw [e 0 (by decide), e 1 (by decide), e 9 (by decide)]
    simp only [isN_upd (show 213 + 7 * k ≠ 17 + 16 * v + q by omega), isN_upd (show 213 + 7 * k + 1 ≠ 17 + 16 * v + q by omega), isN_upd (show 213 + 7 * k + 2 ≠ 17 + 16 * v + q by omega), isN_upd (show 213 + 7 * k + 3 ≠ 17 + 16 * v + q by omega), isN_upd (show 213 + 7 * k + 4 ≠ 17 + 16 * v + q by omega), isN_upd (show 213 + 7 * k + 5 ≠ 17 + 16 * v + q by omega), sn_upd (show 213 + 7 * k ≠ 17 + 16 * v + q by omega), sn_upd (show 213 + 7 * k + 1 ≠ 17 + 16 * v + q by omega), sn_upd (show 213 + 7 * k + 2 ≠ 17 + 16 * v + q by omega), sn_upd (show 213 + 7 * k + 4 ≠ 17 + 16 * v + q by omega), sn_upd (show 213 + 7 * k + 5 ≠ 17 + 16 * v + q by omega)]
    exact this
  · rw [e 5 (by decide)] at hk
    have := kk k hk
    rw [e 0 (by decide), e 1 (by decide), e 9 (by decide), e 8 (by decide)]
    simp only [isN_upd (show 269 + 5 * k ≠ 17 + 16 * v + q by omega), isN_upd (show 269 + 5 * k + 1 ≠ 17 + 16 * v + q by omega), isN_upd (show 269 + 5 * k + 2 ≠ 17 + 16 * v + q by omega), isN_upd (show 269 + 5 * k + 3 ≠ 17 + 16 * v + q by omega), isN_upd (show 269 + 5 * k + 4 ≠ 17 + 16 * v + q by omega), upd_ne (show 269 + 5 * k + 2 ≠ 17 + 16 * v + q by omega), upd_ne (show 269 + 5 * k + 3 ≠ 17 + 16 * v + q by omega), upd_ne (show 269 + 5 * k + 4 ≠ 17 + 16 * v + q by omega)]
    exact this
