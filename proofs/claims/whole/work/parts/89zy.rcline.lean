/-! COUNTRY: a village, a misprint, and which line it is, in the reference (made by wip/whole/gen89zy.py) -/
theorem b_198_0 {X : Nat × (Nat → Int32)} {d : Nat} {p : Nat → Nat} {sg : Mg} {Q : am_R → Prop} {B : Nat} {S : Nat → Int32} (hI : Inv B S) (hS : sg 801 = S) {T : Nat → Int32} {tn tk : Nat} (hM : MK T tn (nxK T tn tk) sg) (hE : sg 800 11 = nI (spK T tn tk)) {sg0 : Mg} (hG : FRm sg0 sg)
    (o1 : (¬ sn S 0 = 6) → MK T tn (nxK T tn tk) sg → FRm sg0 sg → sg 800 11 = nI (spK T tn tk) → sg 801 = S → gW X (d + 6) k_198 12 [some (vR 800), some (vI (S 0)), some (vI 0), some (vI 0), none] [] p sg Q)
    (o2 : (sn S 0 = 6) → MK T tn (nxK T tn tk) sg → FRm sg0 sg → sg 800 11 = nI (spK T tn tk) → sg 801 = S → Q (gRv p sg 0)) :
    gW X (d + 6) k_198 0 [some (vR 800), none, none, none, none] [] p sg Q := by
  have b0 := hI.b0; have b1 := hI.b1; have b2 := hI.b2; have b3 := hI.b3; have b4 := hI.b4; have b5 := hI.b5; have b6 := hI.b6; have b7 := hI.b7; have b8 := hI.b8; have b9 := hI.b9; have b14 := hI.b14
  refine g_pure 1 (i' := 1) (lv' := [some (vR 800), none, none, none, none]) (st' := [vR 800]) rfl ?_
  refine g_cV1 rfl (args := [vR 800]) (rest := []) rfl rfl rfl (s_195 (d := d + 5) hS) ?_
  refine g_pure 3 (i' := 5) (lv' := [some (vR 800), some (vI (S 0)), none, none, none]) (st' := [vI 6, vI (S 0)]) rfl ?_
  refine g_if2 (i' := 8) (P := ¬ sn S 0 = 6) rfl rfl (g_neN (show S 0 = nI (sn S 0) from (hI.c0)) (show 6 = nI 6 from (show (6 : Int32) = nI 6 from rfl)) (by omega) (by omega)) (fun h1 => ?_) (fun h1 => ?_)
  · refine g_pure 4 (i' := 12) (lv' := [some (vR 800), some (vI (S 0)), some (vI 0), some (vI 0), none]) (st' := []) rfl ?_
    exact o1 h1 hM hG hE hS
  · have h1 := Classical.not_not.mp h1
    refine g_pure 1 (i' := 7) (lv' := [some (vR 800), some (vI (S 0)), none, none, none]) (st' := [vI 0]) rfl ?_
    refine g_bret rfl g_nar0 ?_
    exact o2 h1 hM hG hE hS

theorem b_198_12 {X : Nat × (Nat → Int32)} {d : Nat} {p : Nat → Nat} {sg : Mg} {Q : am_R → Prop} {B : Nat} {S : Nat → Int32} (hI : Inv B S) (hS : sg 801 = S) {T : Nat → Int32} {tn tk fb : Nat} (hM : MK T tn tk sg) (hE : sg 800 11 = nI fb) {sg0 : Mg} (hG : FRm sg0 sg) {v : Nat} {w : Nat} {q : Nat} {z4 : Option AV} (u_v : v ≤ 5) (u_w : w ≤ 65535) (u_q : q ≤ 16)
    (o1 : (sn S 9 ≤ q) → MK T tn tk sg → FRm sg0 sg → sg 800 11 = nI fb → sg 801 = S → gW X (d + 6) k_198 46 [some (vR 800), some (vI (nI v)), some (vI (nI w)), some (vI (nI q)), z4] [] p sg Q)
    (o2 : (¬ (sn S 9 ≤ q)) → (tkP T tn tk 4 0 (sn S 9)) → ∀ s3 : Mg, (MK T tn (nxK T tn tk) s3 ∧ NR T tn tk sg s3) → (¬ ((((nI w) >>> ((nI (numK T tn tk)) &&& 31)) &&& 1) = 1)) → ∀ s7 : Mg, s7 = mu s3 801 (17 + 16 * v + q) (nI (numK T tn tk)) → MK T tn (nxK T tn tk) s7 → FRm sg0 s7 → s7 800 11 = nI (spK T tn tk) → s7 801 = (upd S (17 + 16 * v + q) (nI (numK T tn tk))) → gW X (d + 6) k_198 12 [some (vR 800), some (vI (nI v)), some (vI (nI w ||| (1 <<< (nI (numK T tn tk) &&& 31)))), some (vI (nI (q + 1))), some (vI (nI (numK T tn tk)))] [] p s7 Q)
    (o3 : (¬ (sn S 9 ≤ q)) → (tkP T tn tk 4 0 (sn S 9)) → ∀ s3 : Mg, (MK T tn (nxK T tn tk) s3 ∧ NR T tn tk sg s3) → (((((nI w) >>> ((nI (numK T tn tk)) &&& 31)) &&& 1) = 1)) → MK T tn (nxK T tn tk) s3 → FRm sg0 s3 → s3 800 11 = nI (spK T tn tk) → s3 801 = S → Q (gRv p s3 0))
    (o4 : (¬ (sn S 9 ≤ q)) → (¬ tkP T tn tk 4 0 (sn S 9)) → ∀ s8 : Mg, (NR T tn tk sg s8) → FRm sg0 s8 → s8 800 11 = nI (spK T tn tk) → s8 801 = S → Q (gRv p s8 0)) :
    gW X (d + 6) k_198 12 [some (vR 800), some (vI (nI v)), some (vI (nI w)), some (vI (nI q)), z4] [] p sg Q := by
  have b0 := hI.b0; have b1 := hI.b1; have b2 := hI.b2; have b3 := hI.b3; have b4 := hI.b4; have b5 := hI.b5; have b6 := hI.b6; have b7 := hI.b7; have b8 := hI.b8; have b9 := hI.b9; have b14 := hI.b14
  refine g_pure 2 (i' := 14) (lv' := [some (vR 800), some (vI (nI v)), some (vI (nI w)), some (vI (nI q)), z4]) (st' := [vR 800, vI (nI q)]) rfl ?_
  refine g_cV1 rfl (args := [vR 800]) (rest := [vI (nI q)]) rfl rfl rfl (s_199 (d := d + 5) hS) ?_
  refine g_if2 (i' := 46) (P := sn S 9 ≤ q) rfl rfl (g_geN (show nI q = nI q from (rfl : nI q = nI q)) (show S 9 = nI (sn S 9) from (hI.c9)) (by omega) (by omega)) (fun h1 => ?_) (fun h1 => ?_)
  · exact o1 h1 hM hG hE hS
  · refine g_pure 1 (i' := 17) (lv' := [some (vR 800), some (vI (nI v)), some (vI (nI w)), some (vI (nI q)), z4]) (st' := [vR 800]) rfl ?_
    by_cases h2 : tkP T tn tk 4 0 (sn S 9)
    · refine g_cV1E rfl (args := [vR 800]) (rest := []) rfl rfl rfl (s_200a (d := d + 1) hM (((congrFun hS 9)).trans (hI.c9)) (by omega) (by assumption)) (fun s3 es3 => ?_)
      have hSs3 : s3 801 = S := (es3.2.1.1 801 (by decide)).trans hS
      have hMs3 := es3.1
      have hEs3 := es3.2.2
      have hGs3 := hG.mf es3.2.1
      have t4 := (show tkP T tn tk 4 0 (sn S 9) by assumption).2.2.2
      refine g_pure 2 (i' := 20) (lv' := [some (vR 800), some (vI (nI v)), some (vI (nI w)), some (vI (nI q)), some (vI (nI (numK T tn tk)))]) (st' := [vI (nI (numK T tn tk))]) rfl ?_
      refine g_if1 (i' := 25) (P := numK T tn tk < 0) rfl rfl (g_ltN (show nI (numK T tn tk) = nI (numK T tn tk) from (rfl : nI (numK T tn tk) = nI (numK T tn tk))) (show 0 = nI 0 from (show (0 : Int32) = nI 0 from rfl)) (by omega) (by omega)) (fun h5 => absurd h5 (by omega)) (fun _ => ?_)
      refine g_pure 2 (i' := 23) (lv' := [some (vR 800), some (vI (nI v)), some (vI (nI w)), some (vI (nI q)), some (vI (nI (numK T tn tk)))]) (st' := [vI (nI (numK T tn tk)), vI (nI w)]) rfl ?_
      refine g_cS1 rfl (args := [vI (nI w), vI (nI (numK T tn tk))]) (rest := []) rfl rfl rfl (s_201 (d := d + 5) ) ?_
      refine g_if1 (i' := 27) (P := ¬ ((((nI w) >>> ((nI (numK T tn tk)) &&& 31)) &&& 1) = 1)) rfl rfl g_eqB (fun h6 => ?_) (fun h6 => ?_)
      · refine g_pure 16 (i' := 43) (lv' := [some (vR 800), some (vI (nI v)), some (vI (nI w ||| (1 <<< (nI (numK T tn tk) &&& 31)))), some (vI (nI q)), some (vI (nI (numK T tn tk)))]) (st' := [vI (nI (numK T tn tk)), vI ((17 + (16 * nI v)) + nI q), vR 801]) rfl ?_
        refine gW_eq (lv' := [some (vR 800), some (vI (nI v)), some (vI (nI w ||| (1 <<< (nI (numK T tn tk) &&& 31)))), some (vI (nI q)), some (vI (nI (numK T tn tk)))]) (st' := [vI (nI (numK T tn tk)), vI (nI (17 + 16 * v + q)), vR 801]) rfl (by rw [(show ((17 + (16 * nI v)) + nI q) = nI (17 + 16 * v + q) from ((g_add (g_add (show (17 : Int32) = nI 17 from rfl) (g_mul (show (16 : Int32) = nI 16 from rfl) (rfl : nI v = nI v))) (rfl : nI q = nI q))).trans (congrArg nI (by omega)))]) rfl ?_
        refine g_ast rfl (g_A (a := 801) (kd := 1) (n := 2407) rfl (by decide)) (by decide) (show nI (17 + 16 * v + q) = nI (17 + 16 * v + q) from (rfl : nI (17 + 16 * v + q) = nI (17 + 16 * v + q))) (by omega) ?_
        refine g_setv (fun s7 es7 => ?_)
        have hMs7 : MK T tn (nxK T tn tk) s7 := hMs3.eq (by rw [es7, mu_ne (by decide)]) (by rw [es7, mu_ne (by decide)])
        have hEs7 : s7 800 11 = nI (spK T tn tk) := by rw [es7, mu_ne (by decide)]; exact hEs3
        have hGs7 : FRm sg0 s7 := by rw [es7]; exact hGs3.m801 (by omega)
        have hSs7 : s7 801 = upd S (17 + 16 * v + q) (nI (numK T tn tk)) := by rw [es7, mu_row, hSs3]
        refine g_pure 2 (i' := 12) (lv' := [some (vR 800), some (vI (nI v)), some (vI (nI w ||| (1 <<< (nI (numK T tn tk) &&& 31)))), some (vI (nI q + 1)), some (vI (nI (numK T tn tk)))]) (st' := []) rfl ?_
        refine gW_eq (lv' := [some (vR 800), some (vI (nI v)), some (vI (nI w ||| (1 <<< (nI (numK T tn tk) &&& 31)))), some (vI (nI (q + 1))), some (vI (nI (numK T tn tk)))]) (st' := []) (by rw [(show (nI q + 1) = nI (q + 1) from ((g_add (rfl : nI q = nI q) (show (1 : Int32) = nI 1 from rfl))).trans (congrArg nI (by omega)))]) rfl rfl ?_
        exact o2 h1 h2 s3 es3 h6 s7 es7 hMs7 hGs7 hEs7 hSs7
      · have h6 := Classical.not_not.mp h6
        refine g_pure 1 (i' := 26) (lv' := [some (vR 800), some (vI (nI v)), some (vI (nI w)), some (vI (nI q)), some (vI (nI (numK T tn tk)))]) (st' := [vI 0]) rfl ?_
        refine g_bret rfl g_nar0 ?_
        exact o3 h1 h2 s3 es3 h6 hMs3 hGs3 hEs3 hSs3
    · refine g_cV1E rfl (args := [vR 800]) (rest := []) rfl rfl rfl (s_200b (d := d + 1) hM (((congrFun hS 9)).trans (hI.c9)) (by omega) (by assumption)) (fun s8 es8 => ?_)
      have hSs8 : s8 801 = S := (es8.1.1 801 (by decide)).trans hS
      have hEs8 := es8.2
      have hGs8 := hG.mf es8.1
      refine g_pure 2 (i' := 20) (lv' := [some (vR 800), some (vI (nI v)), some (vI (nI w)), some (vI (nI q)), some (vI (-1))]) (st' := [vI (-1)]) rfl ?_
      refine g_if1 (i' := 25) (P := ((-1) : Int32) < 0) rfl rfl Iff.rfl (fun _ => ?_) (fun h9 => absurd (by decide) h9)
      refine g_pure 1 (i' := 26) (lv' := [some (vR 800), some (vI (nI v)), some (vI (nI w)), some (vI (nI q)), some (vI (-1))]) (st' := [vI 0]) rfl ?_
      refine g_bret rfl g_nar0 ?_
      exact o4 h1 h2 s8 es8 hGs8 hEs8 hSs8

theorem b_198_55 {X : Nat × (Nat → Int32)} {d : Nat} {p : Nat → Nat} {sg : Mg} {Q : am_R → Prop} {B : Nat} {S : Nat → Int32} (hI : Inv B S) (hS : sg 801 = S) {T : Nat → Int32} {tn tk fb : Nat} (hM : MK T tn tk sg) (hE : sg 800 11 = nI fb) {sg0 : Mg} (hG : FRm sg0 sg) {v : Nat} {z2 : Option AV} {z3 : Option AV} {z4 : Option AV} (u_v : v ≤ 5)
    (o1 : ∀ s1 : Mg, s1 = mu sg 801 0 (nI (sn S 0 + 1)) → MK T tn tk s1 → FRm sg0 s1 → s1 800 11 = nI fb → s1 801 = (upd S 0 (nI (sn S 0 + 1))) → Q (gRv p s1 1)) :
    gW X (d + 6) k_198 55 [some (vR 800), some (vI (nI v)), z2, z3, z4] [] p sg Q := by
  have b0 := hI.b0; have b1 := hI.b1; have b2 := hI.b2; have b3 := hI.b3; have b4 := hI.b4; have b5 := hI.b5; have b6 := hI.b6; have b7 := hI.b7; have b8 := hI.b8; have b9 := hI.b9; have b14 := hI.b14
  refine g_pure 4 (i' := 59) (lv' := [some (vR 800), some (vI (nI v)), z2, z3, z4]) (st' := [vI 0, vR 801, vI 0, vR 801]) rfl ?_
  refine g_ald rfl (g_A (a := 801) (kd := 1) (n := 2407) rfl (by decide)) (by decide) (show 0 = nI 0 from (show (0 : Int32) = nI 0 from rfl)) (by decide) (show _ = S 0 from (congrFun hS 0)) ?_
  refine g_pure 2 (i' := 62) (lv' := [some (vR 800), some (vI (nI v)), z2, z3, z4]) (st' := [vI (S 0 + 1), vI 0, vR 801]) rfl ?_
  refine gW_eq (lv' := [some (vR 800), some (vI (nI v)), z2, z3, z4]) (st' := [vI (nI (sn S 0 + 1)), vI 0, vR 801]) rfl (by rw [(show (S 0 + 1) = nI (sn S 0 + 1) from ((g_add (hI.c0) (show (1 : Int32) = nI 1 from rfl))).trans (congrArg nI (by omega)))]) rfl ?_
  refine g_ast rfl (g_A (a := 801) (kd := 1) (n := 2407) rfl (by decide)) (by decide) (show 0 = nI 0 from (show (0 : Int32) = nI 0 from rfl)) (by decide) ?_
  refine g_setv (fun s1 es1 => ?_)
  have hMs1 : MK T tn tk s1 := hM.eq (by rw [es1, mu_ne (by decide)]) (by rw [es1, mu_ne (by decide)])
  have hEs1 : s1 800 11 = nI fb := by rw [es1, mu_ne (by decide)]; exact hE
  have hGs1 : FRm sg0 s1 := by rw [es1]; exact hG.m801 (by omega)
  have hSs1 : s1 801 = upd S 0 (nI (sn S 0 + 1)) := by rw [es1, mu_row, hS]
  refine g_pure 1 (i' := 64) (lv' := [some (vR 800), some (vI (nI v)), z2, z3, z4]) (st' := [vI 1]) rfl ?_
  refine g_bret rfl g_nar1 ?_
  exact o1 s1 es1 hMs1 hGs1 hEs1 hSs1

theorem b_215_0 {X : Nat × (Nat → Int32)} {d : Nat} {p : Nat → Nat} {sg : Mg} {Q : am_R → Prop} {B : Nat} {S : Nat → Int32} (hI : Inv B S) (hS : sg 801 = S) {T : Nat → Int32} {tn tk : Nat} (hM : MK T tn (nxK T tn tk) sg) (hE : sg 800 11 = nI (spK T tn tk)) {sg0 : Mg} (hG : FRm sg0 sg)
    (o1 : (tkP T tn (nxK T tn tk) 4 0 (sn S 0)) → ∀ s2 : Mg, (MK T tn (nxK T tn (nxK T tn tk)) s2 ∧ NR T tn (nxK T tn tk) sg s2) → (tkP T tn (nxK T tn (nxK T tn tk)) 4 0 (sn S 9)) → ∀ s6 : Mg, (MK T tn (nxK T tn (nxK T tn (nxK T tn tk))) s6 ∧ NR T tn (nxK T tn (nxK T tn tk)) s2 s6) → (tkP T tn (nxK T tn (nxK T tn (nxK T tn tk))) 4 0 (sn S 9)) → ∀ s10 : Mg, (MK T tn (nxK T tn (nxK T tn (nxK T tn (nxK T tn tk)))) s10 ∧ NR T tn (nxK T tn (nxK T tn (nxK T tn tk))) s6 s10) → MK T tn (nxK T tn (nxK T tn (nxK T tn (nxK T tn tk)))) s10 → FRm sg0 s10 → s10 800 11 = nI (spK T tn (nxK T tn (nxK T tn (nxK T tn tk)))) → s10 801 = S → gW X (d + 5) k_215 29 [some (vR 800), some (vI (nI (numK T tn (nxK T tn tk)))), some (vI (nI (numK T tn (nxK T tn (nxK T tn tk))))), some (vI (nI (numK T tn (nxK T tn (nxK T tn (nxK T tn tk))))))] [vI (nI (pgf S (numK T tn (nxK T tn tk)) (numK T tn (nxK T tn (nxK T tn (nxK T tn tk)))))), vI (nI (pgf S (numK T tn (nxK T tn tk)) (numK T tn (nxK T tn (nxK T tn tk))))), vI (nI (numK T tn (nxK T tn tk))), vR 800] p s10 Q)
    (o2 : (tkP T tn (nxK T tn tk) 4 0 (sn S 0)) → ∀ s2 : Mg, (MK T tn (nxK T tn (nxK T tn tk)) s2 ∧ NR T tn (nxK T tn tk) sg s2) → (tkP T tn (nxK T tn (nxK T tn tk)) 4 0 (sn S 9)) → ∀ s6 : Mg, (MK T tn (nxK T tn (nxK T tn (nxK T tn tk))) s6 ∧ NR T tn (nxK T tn (nxK T tn tk)) s2 s6) → (¬ tkP T tn (nxK T tn (nxK T tn (nxK T tn tk))) 4 0 (sn S 9)) → ∀ s15 : Mg, (NR T tn (nxK T tn (nxK T tn (nxK T tn tk))) s6 s15) → FRm sg0 s15 → s15 800 11 = nI (spK T tn (nxK T tn (nxK T tn (nxK T tn tk)))) → s15 801 = S → Q (gRv p s15 0))
    (o3 : (tkP T tn (nxK T tn tk) 4 0 (sn S 0)) → ∀ s2 : Mg, (MK T tn (nxK T tn (nxK T tn tk)) s2 ∧ NR T tn (nxK T tn tk) sg s2) → (¬ tkP T tn (nxK T tn (nxK T tn tk)) 4 0 (sn S 9)) → ∀ s18 : Mg, (NR T tn (nxK T tn (nxK T tn tk)) s2 s18) → FRm sg0 s18 → s18 800 11 = nI (spK T tn (nxK T tn (nxK T tn tk))) → s18 801 = S → Q (gRv p s18 0))
    (o4 : (¬ tkP T tn (nxK T tn tk) 4 0 (sn S 0)) → ∀ s22 : Mg, (NR T tn (nxK T tn tk) sg s22) → FRm sg0 s22 → s22 800 11 = nI (spK T tn (nxK T tn tk)) → s22 801 = S → Q (gRv p s22 0)) :
    gW X (d + 5) k_215 0 [some (vR 800), none, none, none] [] p sg Q := by
  have b0 := hI.b0; have b1 := hI.b1; have b2 := hI.b2; have b3 := hI.b3; have b4 := hI.b4; have b5 := hI.b5; have b6 := hI.b6; have b7 := hI.b7; have b8 := hI.b8; have b9 := hI.b9; have b14 := hI.b14
  refine g_pure 1 (i' := 1) (lv' := [some (vR 800), none, none, none]) (st' := [vR 800]) rfl ?_
  by_cases h1 : tkP T tn (nxK T tn tk) 4 0 (sn S 0)
  · refine g_cV1E rfl (args := [vR 800]) (rest := []) rfl rfl rfl (s_204a (d := d) hM (((congrFun hS 0)).trans (hI.c0)) (by omega) (by assumption)) (fun s2 es2 => ?_)
    have hSs2 : s2 801 = S := (es2.2.1.1 801 (by decide)).trans hS
    have hMs2 := es2.1
    have hEs2 := es2.2.2
    have hGs2 := hG.mf es2.2.1
    have t3 := (show tkP T tn (nxK T tn tk) 4 0 (sn S 0) by assumption).2.2.2
    refine g_pure 2 (i' := 4) (lv' := [some (vR 800), some (vI (nI (numK T tn (nxK T tn tk)))), none, none]) (st' := [vI (nI (numK T tn (nxK T tn tk)))]) rfl ?_
    refine g_if1 (i' := 7) (P := 0 ≤ numK T tn (nxK T tn tk)) rfl rfl (g_geN (show nI (numK T tn (nxK T tn tk)) = nI (numK T tn (nxK T tn tk)) from (rfl : nI (numK T tn (nxK T tn tk)) = nI (numK T tn (nxK T tn tk)))) (show 0 = nI 0 from (show (0 : Int32) = nI 0 from rfl)) (by omega) (by omega)) (fun _ => ?_) (fun h4 => absurd (by omega) h4)
    refine g_pure 1 (i' := 8) (lv' := [some (vR 800), some (vI (nI (numK T tn (nxK T tn tk)))), none, none]) (st' := [vR 800]) rfl ?_
    by_cases h5 : tkP T tn (nxK T tn (nxK T tn tk)) 4 0 (sn S 9)
    · refine g_cV1E rfl (args := [vR 800]) (rest := []) rfl rfl rfl (s_200a (d := d) hMs2 (((congrFun hSs2 9)).trans (hI.c9)) (by omega) (by assumption)) (fun s6 es6 => ?_)
      have hSs6 : s6 801 = S := (es6.2.1.1 801 (by decide)).trans hSs2
      have hMs6 := es6.1
      have hEs6 := es6.2.2
      have hGs6 := hGs2.mf es6.2.1
      have t7 := (show tkP T tn (nxK T tn (nxK T tn tk)) 4 0 (sn S 9) by assumption).2.2.2
      refine g_pure 2 (i' := 11) (lv' := [some (vR 800), some (vI (nI (numK T tn (nxK T tn tk)))), some (vI (nI (numK T tn (nxK T tn (nxK T tn tk))))), none]) (st' := [vI (nI (numK T tn (nxK T tn (nxK T tn tk))))]) rfl ?_
      refine g_if1 (i' := 14) (P := 0 ≤ numK T tn (nxK T tn (nxK T tn tk))) rfl rfl (g_geN (show nI (numK T tn (nxK T tn (nxK T tn tk))) = nI (numK T tn (nxK T tn (nxK T tn tk))) from (rfl : nI (numK T tn (nxK T tn (nxK T tn tk))) = nI (numK T tn (nxK T tn (nxK T tn tk))))) (show 0 = nI 0 from (show (0 : Int32) = nI 0 from rfl)) (by omega) (by omega)) (fun _ => ?_) (fun h8 => absurd (by omega) h8)
      refine g_pure 1 (i' := 15) (lv' := [some (vR 800), some (vI (nI (numK T tn (nxK T tn tk)))), some (vI (nI (numK T tn (nxK T tn (nxK T tn tk))))), none]) (st' := [vR 800]) rfl ?_
      by_cases h9 : tkP T tn (nxK T tn (nxK T tn (nxK T tn tk))) 4 0 (sn S 9)
      · refine g_cV1E rfl (args := [vR 800]) (rest := []) rfl rfl rfl (s_200a (d := d) hMs6 (((congrFun hSs6 9)).trans (hI.c9)) (by omega) (by assumption)) (fun s10 es10 => ?_)
        have hSs10 : s10 801 = S := (es10.2.1.1 801 (by decide)).trans hSs6
        have hMs10 := es10.1
        have hEs10 := es10.2.2
        have hGs10 := hGs6.mf es10.2.1
        have t11 := (show tkP T tn (nxK T tn (nxK T tn (nxK T tn tk))) 4 0 (sn S 9) by assumption).2.2.2
        refine g_pure 2 (i' := 18) (lv' := [some (vR 800), some (vI (nI (numK T tn (nxK T tn tk)))), some (vI (nI (numK T tn (nxK T tn (nxK T tn tk))))), some (vI (nI (numK T tn (nxK T tn (nxK T tn (nxK T tn tk))))))]) (st' := [vI (nI (numK T tn (nxK T tn (nxK T tn (nxK T tn tk)))))]) rfl ?_
        refine g_if1 (i' := 30) (P := numK T tn (nxK T tn (nxK T tn (nxK T tn tk))) < 0) rfl rfl (g_ltN (show nI (numK T tn (nxK T tn (nxK T tn (nxK T tn tk)))) = nI (numK T tn (nxK T tn (nxK T tn (nxK T tn tk)))) from (rfl : nI (numK T tn (nxK T tn (nxK T tn (nxK T tn tk)))) = nI (numK T tn (nxK T tn (nxK T tn (nxK T tn tk)))))) (show 0 = nI 0 from (show (0 : Int32) = nI 0 from rfl)) (by omega) (by omega)) (fun h12 => absurd h12 (by omega)) (fun _ => ?_)
        refine g_pure 5 (i' := 24) (lv' := [some (vR 800), some (vI (nI (numK T tn (nxK T tn tk)))), some (vI (nI (numK T tn (nxK T tn (nxK T tn tk))))), some (vI (nI (numK T tn (nxK T tn (nxK T tn (nxK T tn tk))))))]) (st' := [vI (nI (numK T tn (nxK T tn (nxK T tn tk)))), vI (nI (numK T tn (nxK T tn tk))), vR 800, vI (nI (numK T tn (nxK T tn tk))), vR 800]) rfl ?_
        refine g_cV1 rfl (args := [vR 800, vI (nI (numK T tn (nxK T tn tk))), vI (nI (numK T tn (nxK T tn (nxK T tn tk))))]) (rest := [vI (nI (numK T tn (nxK T tn tk))), vR 800]) rfl rfl rfl (s_216 (d := d + 3) hI hSs10 (by omega) (by omega)) ?_
        have t13 := (pgf_ok hI (v := (numK T tn (nxK T tn tk))) (e := (numK T tn (nxK T tn (nxK T tn tk)))) (by omega) (by omega)).1
        refine g_pure 3 (i' := 28) (lv' := [some (vR 800), some (vI (nI (numK T tn (nxK T tn tk)))), some (vI (nI (numK T tn (nxK T tn (nxK T tn tk))))), some (vI (nI (numK T tn (nxK T tn (nxK T tn (nxK T tn tk))))))]) (st' := [vI (nI (numK T tn (nxK T tn (nxK T tn (nxK T tn tk))))), vI (nI (numK T tn (nxK T tn tk))), vR 800, vI (nI (pgf S (numK T tn (nxK T tn tk)) (numK T tn (nxK T tn (nxK T tn tk))))), vI (nI (numK T tn (nxK T tn tk))), vR 800]) rfl ?_
        refine g_cV1 rfl (args := [vR 800, vI (nI (numK T tn (nxK T tn tk))), vI (nI (numK T tn (nxK T tn (nxK T tn (nxK T tn tk)))))]) (rest := [vI (nI (pgf S (numK T tn (nxK T tn tk)) (numK T tn (nxK T tn (nxK T tn tk))))), vI (nI (numK T tn (nxK T tn tk))), vR 800]) rfl rfl rfl (s_216 (d := d + 3) hI hSs10 (by omega) (by omega)) ?_
        have t14 := (pgf_ok hI (v := (numK T tn (nxK T tn tk))) (e := (numK T tn (nxK T tn (nxK T tn (nxK T tn tk))))) (by omega) (by omega)).1
        exact o1 h1 s2 es2 h5 s6 es6 h9 s10 es10 hMs10 hGs10 hEs10 hSs10
      · refine g_cV1E rfl (args := [vR 800]) (rest := []) rfl rfl rfl (s_200b (d := d) hMs6 (((congrFun hSs6 9)).trans (hI.c9)) (by omega) (by assumption)) (fun s15 es15 => ?_)
        have hSs15 : s15 801 = S := (es15.1.1 801 (by decide)).trans hSs6
        have hEs15 := es15.2
        have hGs15 := hGs6.mf es15.1
        refine g_pure 2 (i' := 18) (lv' := [some (vR 800), some (vI (nI (numK T tn (nxK T tn tk)))), some (vI (nI (numK T tn (nxK T tn (nxK T tn tk))))), some (vI (-1))]) (st' := [vI (-1)]) rfl ?_
        refine g_if1 (i' := 30) (P := ((-1) : Int32) < 0) rfl rfl Iff.rfl (fun _ => ?_) (fun h16 => absurd (by decide) h16)
        refine g_pure 1 (i' := 31) (lv' := [some (vR 800), some (vI (nI (numK T tn (nxK T tn tk)))), some (vI (nI (numK T tn (nxK T tn (nxK T tn tk))))), some (vI (-1))]) (st' := [vI (-1)]) rfl ?_
        refine g_if1 (i' := 34) (P := ((-1) : Int32) < 0) rfl rfl Iff.rfl (fun _ => ?_) (fun h17 => absurd (by decide) h17)
        refine g_pure 1 (i' := 35) (lv' := [some (vR 800), some (vI (nI (numK T tn (nxK T tn tk)))), some (vI (nI (numK T tn (nxK T tn (nxK T tn tk))))), some (vI (-1))]) (st' := [vI 0]) rfl ?_
        refine g_bret rfl g_nar0 ?_
        exact o2 h1 s2 es2 h5 s6 es6 h9 s15 es15 hGs15 hEs15 hSs15
    · refine g_cV1E rfl (args := [vR 800]) (rest := []) rfl rfl rfl (s_200b (d := d) hMs2 (((congrFun hSs2 9)).trans (hI.c9)) (by omega) (by assumption)) (fun s18 es18 => ?_)
      have hSs18 : s18 801 = S := (es18.1.1 801 (by decide)).trans hSs2
      have hEs18 := es18.2
      have hGs18 := hGs2.mf es18.1
      refine g_pure 2 (i' := 11) (lv' := [some (vR 800), some (vI (nI (numK T tn (nxK T tn tk)))), some (vI (-1)), none]) (st' := [vI (-1)]) rfl ?_
      refine g_if1 (i' := 14) (P := 0 ≤ ((-1) : Int32)) rfl rfl Iff.rfl (fun h19 => absurd h19 (by decide)) (fun _ => ?_)
      refine g_pure 4 (i' := 18) (lv' := [some (vR 800), some (vI (nI (numK T tn (nxK T tn tk)))), some (vI (-1)), some (vI (-1))]) (st' := [vI (-1)]) rfl ?_
      refine g_if1 (i' := 30) (P := ((-1) : Int32) < 0) rfl rfl Iff.rfl (fun _ => ?_) (fun h20 => absurd (by decide) h20)
      refine g_pure 1 (i' := 31) (lv' := [some (vR 800), some (vI (nI (numK T tn (nxK T tn tk)))), some (vI (-1)), some (vI (-1))]) (st' := [vI (-1)]) rfl ?_
      refine g_if1 (i' := 34) (P := ((-1) : Int32) < 0) rfl rfl Iff.rfl (fun _ => ?_) (fun h21 => absurd (by decide) h21)
      refine g_pure 1 (i' := 35) (lv' := [some (vR 800), some (vI (nI (numK T tn (nxK T tn tk)))), some (vI (-1)), some (vI (-1))]) (st' := [vI 0]) rfl ?_
      refine g_bret rfl g_nar0 ?_
      exact o3 h1 s2 es2 h5 s18 es18 hGs18 hEs18 hSs18
  · refine g_cV1E rfl (args := [vR 800]) (rest := []) rfl rfl rfl (s_204b (d := d) hM (((congrFun hS 0)).trans (hI.c0)) (by omega) (by assumption)) (fun s22 es22 => ?_)
    have hSs22 : s22 801 = S := (es22.1.1 801 (by decide)).trans hS
    have hEs22 := es22.2
    have hGs22 := hG.mf es22.1
    refine g_pure 2 (i' := 4) (lv' := [some (vR 800), some (vI (-1)), none, none]) (st' := [vI (-1)]) rfl ?_
    refine g_if1 (i' := 7) (P := 0 ≤ ((-1) : Int32)) rfl rfl Iff.rfl (fun h23 => absurd h23 (by decide)) (fun _ => ?_)
    refine g_pure 4 (i' := 11) (lv' := [some (vR 800), some (vI (-1)), some (vI (-1)), none]) (st' := [vI (-1)]) rfl ?_
    refine g_if1 (i' := 14) (P := 0 ≤ ((-1) : Int32)) rfl rfl Iff.rfl (fun h24 => absurd h24 (by decide)) (fun _ => ?_)
    refine g_pure 4 (i' := 18) (lv' := [some (vR 800), some (vI (-1)), some (vI (-1)), some (vI (-1))]) (st' := [vI (-1)]) rfl ?_
    refine g_if1 (i' := 30) (P := ((-1) : Int32) < 0) rfl rfl Iff.rfl (fun _ => ?_) (fun h25 => absurd (by decide) h25)
    refine g_pure 1 (i' := 31) (lv' := [some (vR 800), some (vI (-1)), some (vI (-1)), some (vI (-1))]) (st' := [vI (-1)]) rfl ?_
    refine g_if1 (i' := 34) (P := ((-1) : Int32) < 0) rfl rfl Iff.rfl (fun _ => ?_) (fun h26 => absurd (by decide) h26)
    refine g_pure 1 (i' := 35) (lv' := [some (vR 800), some (vI (-1)), some (vI (-1)), some (vI (-1))]) (st' := [vI 0]) rfl ?_
    refine g_bret rfl g_nar0 ?_
    exact o4 h1 s22 es22 hGs22 hEs22 hSs22

theorem b_192_60 {X : Nat × (Nat → Int32)} {d : Nat} {p : Nat → Nat} {sg : Mg} {Q : am_R → Prop} {B : Nat} {S : Nat → Int32} (hI : Inv B S) (hS : sg 801 = S) {T : Nat → Int32} {tn tk : Nat} (hM : MK T tn (nxK T tn tk) sg) (hE : sg 800 11 = nI (spK T tn tk)) {sg0 : Mg} (hG : FRm sg0 sg)
    (o1 : (tkP T tn (nxK T tn tk) 4 0 101) → ∀ s2 : Mg, (MK T tn (nxK T tn (nxK T tn tk)) s2 ∧ NR T tn (nxK T tn tk) sg s2) → MK T tn (nxK T tn (nxK T tn tk)) s2 → FRm sg0 s2 → s2 800 11 = nI (spK T tn (nxK T tn tk)) → s2 801 = S → gW X (d + 7) k_192 67 [some (vR 800), none] [vI (nI (numK T tn (nxK T tn tk))), vI 15, vR 801] p s2 Q)
    (o2 : (¬ tkP T tn (nxK T tn tk) 4 0 101) → ∀ s4 : Mg, (NR T tn (nxK T tn tk) sg s4) → FRm sg0 s4 → s4 800 11 = nI (spK T tn (nxK T tn tk)) → s4 801 = S → gW X (d + 7) k_192 67 [some (vR 800), none] [vI (-1), vI 15, vR 801] p s4 Q) :
    gW X (d + 7) k_192 60 [some (vR 800), none] [] p sg Q := by
  have b0 := hI.b0; have b1 := hI.b1; have b2 := hI.b2; have b3 := hI.b3; have b4 := hI.b4; have b5 := hI.b5; have b6 := hI.b6; have b7 := hI.b7; have b8 := hI.b8; have b9 := hI.b9; have b14 := hI.b14
  refine g_pure 6 (i' := 66) (lv' := [some (vR 800), none]) (st' := [vI 100, vI 0, vR 800, vI 15, vR 801]) rfl ?_
  by_cases h1 : tkP T tn (nxK T tn tk) 4 0 101
  · refine gW_eq (st' := [vI 100, vI (nI 0), vR 800, vI 15, vR 801]) rfl (by rw [(show (0 : Int32) = nI 0 from rfl)]) rfl ?_
    refine g_cV1E rfl (args := [vR 800, vI (nI 0), vI 100]) (rest := [vI 15, vR 801]) rfl rfl rfl (s_196a (m := 101) (d := d + 3) hM (by omega) (by omega) (show (100 : Int32) = nI 101 - 1 from by decide) (by assumption)) (fun s2 es2 => ?_)
    have hSs2 : s2 801 = S := (es2.2.1.1 801 (by decide)).trans hS
    have hMs2 := es2.1
    have hEs2 := es2.2.2
    have hGs2 := hG.mf es2.2.1
    have t3 := (show tkP T tn (nxK T tn tk) 4 0 101 by assumption).2.2
    exact o1 h1 s2 es2 hMs2 hGs2 hEs2 hSs2
  · refine gW_eq (st' := [vI 100, vI (nI 0), vR 800, vI 15, vR 801]) rfl (by rw [(show (0 : Int32) = nI 0 from rfl)]) rfl ?_
    refine g_cV1E rfl (args := [vR 800, vI (nI 0), vI 100]) (rest := [vI 15, vR 801]) rfl rfl rfl (s_196b (m := 101) (d := d + 3) hM (by omega) (by omega) (show (100 : Int32) = nI 101 - 1 from by decide) (by assumption)) (fun s4 es4 => ?_)
    have hSs4 : s4 801 = S := (es4.1.1 801 (by decide)).trans hS
    have hEs4 := es4.2
    have hGs4 := hG.mf es4.1
    exact o2 h1 s4 es4 hGs4 hEs4 hSs4

theorem b_192_83 {X : Nat × (Nat → Int32)} {d : Nat} {p : Nat → Nat} {sg : Mg} {Q : am_R → Prop} {B : Nat} {S : Nat → Int32} (hI : Inv B S) (hS : sg 801 = S) {T : Nat → Int32} {tn tk : Nat} (hM : MK T tn (nxK T tn tk) sg) (hE : sg 800 11 = nI (spK T tn tk)) {sg0 : Mg} (hG : FRm sg0 sg)
    (o1 : (tkP T tn (nxK T tn tk) 4 0 (sn S 9)) → ∀ s2 : Mg, (MK T tn (nxK T tn (nxK T tn tk)) s2 ∧ NR T tn (nxK T tn tk) sg s2) → ∀ s5 : Mg, s5 = mu s2 801 10 (S 10 ||| (1 <<< (nI (numK T tn (nxK T tn tk)) &&& 31))) → MK T tn (nxK T tn (nxK T tn tk)) s5 → FRm sg0 s5 → s5 800 11 = nI (spK T tn (nxK T tn tk)) → s5 801 = (upd S 10 (S 10 ||| (1 <<< (nI (numK T tn (nxK T tn tk)) &&& 31)))) → Q (gRv p s5 1))
    (o2 : (¬ tkP T tn (nxK T tn tk) 4 0 (sn S 9)) → ∀ s7 : Mg, (NR T tn (nxK T tn tk) sg s7) → FRm sg0 s7 → s7 800 11 = nI (spK T tn (nxK T tn tk)) → s7 801 = S → Q (gRv p s7 0)) :
    gW X (d + 7) k_192 83 [some (vR 800), none] [] p sg Q := by
  have b0 := hI.b0; have b1 := hI.b1; have b2 := hI.b2; have b3 := hI.b3; have b4 := hI.b4; have b5 := hI.b5; have b6 := hI.b6; have b7 := hI.b7; have b8 := hI.b8; have b9 := hI.b9; have b14 := hI.b14
  refine g_pure 1 (i' := 84) (lv' := [some (vR 800), none]) (st' := [vR 800]) rfl ?_
  by_cases h1 : tkP T tn (nxK T tn tk) 4 0 (sn S 9)
  · refine g_cV1E rfl (args := [vR 800]) (rest := []) rfl rfl rfl (s_200a (d := d + 2) hM (((congrFun hS 9)).trans (hI.c9)) (by omega) (by assumption)) (fun s2 es2 => ?_)
    have hSs2 : s2 801 = S := (es2.2.1.1 801 (by decide)).trans hS
    have hMs2 := es2.1
    have hEs2 := es2.2.2
    have hGs2 := hG.mf es2.2.1
    have t3 := (show tkP T tn (nxK T tn tk) 4 0 (sn S 9) by assumption).2.2.2
    refine g_pure 2 (i' := 87) (lv' := [some (vR 800), some (vI (nI (numK T tn (nxK T tn tk))))]) (st' := [vI (nI (numK T tn (nxK T tn tk)))]) rfl ?_
    refine g_if1 (i' := 98) (P := numK T tn (nxK T tn tk) < 0) rfl rfl (g_ltN (show nI (numK T tn (nxK T tn tk)) = nI (numK T tn (nxK T tn tk)) from (rfl : nI (numK T tn (nxK T tn tk)) = nI (numK T tn (nxK T tn tk)))) (show 0 = nI 0 from (show (0 : Int32) = nI 0 from rfl)) (by omega) (by omega)) (fun h4 => absurd h4 (by omega)) (fun _ => ?_)
    refine g_pure 4 (i' := 92) (lv' := [some (vR 800), some (vI (nI (numK T tn (nxK T tn tk))))]) (st' := [vI 10, vR 801, vI 10, vR 801]) rfl ?_
    refine g_ald rfl (g_A (a := 801) (kd := 1) (n := 2407) rfl (by decide)) (by decide) (show 10 = nI 10 from (show (10 : Int32) = nI 10 from rfl)) (by decide) (show _ = S 10 from (congrFun hSs2 10)) ?_
    refine g_pure 4 (i' := 97) (lv' := [some (vR 800), some (vI (nI (numK T tn (nxK T tn tk))))]) (st' := [vI (S 10 ||| (1 <<< (nI (numK T tn (nxK T tn tk)) &&& 31))), vI 10, vR 801]) rfl ?_
    refine g_ast rfl (g_A (a := 801) (kd := 1) (n := 2407) rfl (by decide)) (by decide) (show 10 = nI 10 from (show (10 : Int32) = nI 10 from rfl)) (by decide) ?_
    refine g_setv (fun s5 es5 => ?_)
    have hMs5 : MK T tn (nxK T tn (nxK T tn tk)) s5 := hMs2.eq (by rw [es5, mu_ne (by decide)]) (by rw [es5, mu_ne (by decide)])
    have hEs5 : s5 800 11 = nI (spK T tn (nxK T tn tk)) := by rw [es5, mu_ne (by decide)]; exact hEs2
    have hGs5 : FRm sg0 s5 := by rw [es5]; exact hGs2.m801 (by omega)
    have hSs5 : s5 801 = upd S 10 (S 10 ||| (1 <<< (nI (numK T tn (nxK T tn tk)) &&& 31))) := by rw [es5, mu_row, hSs2]
    refine g_pure 1 (i' := 99) (lv' := [some (vR 800), some (vI (nI (numK T tn (nxK T tn tk))))]) (st' := [vI (nI (numK T tn (nxK T tn tk)))]) rfl ?_
    refine g_if1 (i' := 102) (P := numK T tn (nxK T tn tk) < 0) rfl rfl (g_ltN (show nI (numK T tn (nxK T tn tk)) = nI (numK T tn (nxK T tn tk)) from (rfl : nI (numK T tn (nxK T tn tk)) = nI (numK T tn (nxK T tn tk)))) (show 0 = nI 0 from (show (0 : Int32) = nI 0 from rfl)) (by omega) (by omega)) (fun h6 => absurd h6 (by omega)) (fun _ => ?_)
    refine g_pure 2 (i' := 103) (lv' := [some (vR 800), some (vI (nI (numK T tn (nxK T tn tk))))]) (st' := [vI 1]) rfl ?_
    refine g_bret rfl g_nar1 ?_
    exact o1 h1 s2 es2 s5 es5 hMs5 hGs5 hEs5 hSs5
  · refine g_cV1E rfl (args := [vR 800]) (rest := []) rfl rfl rfl (s_200b (d := d + 2) hM (((congrFun hS 9)).trans (hI.c9)) (by omega) (by assumption)) (fun s7 es7 => ?_)
    have hSs7 : s7 801 = S := (es7.1.1 801 (by decide)).trans hS
    have hEs7 := es7.2
    have hGs7 := hG.mf es7.1
    refine g_pure 2 (i' := 87) (lv' := [some (vR 800), some (vI (-1))]) (st' := [vI (-1)]) rfl ?_
    refine g_if1 (i' := 98) (P := ((-1) : Int32) < 0) rfl rfl Iff.rfl (fun _ => ?_) (fun h8 => absurd (by decide) h8)
    refine g_pure 1 (i' := 99) (lv' := [some (vR 800), some (vI (-1))]) (st' := [vI (-1)]) rfl ?_
    refine g_if1 (i' := 102) (P := ((-1) : Int32) < 0) rfl rfl Iff.rfl (fun _ => ?_) (fun h9 => absurd (by decide) h9)
    refine g_pure 1 (i' := 103) (lv' := [some (vR 800), some (vI (-1))]) (st' := [vI 0]) rfl ?_
    refine g_bret rfl g_nar0 ?_
    exact o2 h1 s7 es7 hGs7 hEs7 hSs7

theorem isW_uniq {T : Nat → Int32} {n k : Nat} {w w' : List Int32} (h : isW T n k w) (g : isW T n k w') : w = w' := by
  have hl : w.length = w'.length := h.1.symm.trans g.1
  refine List.ext_getElem hl (fun i h1 h2 => ?_)
  have e1 := h.2 i h1
  have e2 := g.2 i h2
  rw [e1] at e2
  simp only [List.getD_eq_getElem?_getD, List.getElem?_eq_getElem h1, List.getElem?_eq_getElem h2, Option.getD_some] at e2
  exact e2
theorem prLine_2 {T : Nat → Int32} {n k : Nat} {S : Nat → Int32} (h : isW T n k (am_SL 2)) : prLine T n k S = prVil T n k S := by
  have u : ∀ {w : List Int32}, ¬ am_SL 2 = w → ¬ isW T n k w := fun hw g => hw (isW_uniq h g)
  unfold prLine
  rw [sel_t h]
theorem prLine_3 {T : Nat → Int32} {n k : Nat} {S : Nat → Int32} (h : isW T n k (am_SL 3)) : prLine T n k S = prPer T n k S := by
  have u : ∀ {w : List Int32}, ¬ am_SL 3 = w → ¬ isW T n k w := fun hw g => hw (isW_uniq h g)
  unfold prLine
  rw [sel_f (u (by decide)), sel_t h]
theorem prLine_4 {T : Nat → Int32} {n k : Nat} {S : Nat → Int32} (h : isW T n k (am_SL 4)) : prLine T n k S = prFac T n k S := by
  have u : ∀ {w : List Int32}, ¬ am_SL 4 = w → ¬ isW T n k w := fun hw g => hw (isW_uniq h g)
  unfold prLine
  rw [sel_f (u (by decide)), sel_f (u (by decide)), sel_t h]
theorem prLine_5 {T : Nat → Int32} {n k : Nat} {S : Nat → Int32} (h : isW T n k (am_SL 5)) : prLine T n k S = prRoa T n k S := by
  have u : ∀ {w : List Int32}, ¬ am_SL 5 = w → ¬ isW T n k w := fun hw g => hw (isW_uniq h g)
  unfold prLine
  rw [sel_f (u (by decide)), sel_f (u (by decide)), sel_f (u (by decide)), sel_t h]
theorem prLine_6 {T : Nat → Int32} {n k : Nat} {S : Nat → Int32} (h : isW T n k (am_SL 6)) : prLine T n k S = prDeb T n k S := by
  have u : ∀ {w : List Int32}, ¬ am_SL 6 = w → ¬ isW T n k w := fun hw g => hw (isW_uniq h g)
  unfold prLine
  rw [sel_f (u (by decide)), sel_f (u (by decide)), sel_f (u (by decide)), sel_f (u (by decide)), sel_t h]
theorem prLine_10 {T : Nat → Int32} {n k : Nat} {S : Nat → Int32} (h : isW T n k (am_SL 10)) : prLine T n k S = prTas T n k S := by
  have u : ∀ {w : List Int32}, ¬ am_SL 10 = w → ¬ isW T n k w := fun hw g => hw (isW_uniq h g)
  unfold prLine
  rw [sel_f (u (by decide)), sel_f (u (by decide)), sel_f (u (by decide)), sel_f (u (by decide)), sel_f (u (by decide)), sel_t h]
theorem prLine_12 {T : Nat → Int32} {n k : Nat} {S : Nat → Int32} (h : isW T n k (am_SL 12)) : prLine T n k S = prDay T n k S := by
  have u : ∀ {w : List Int32}, ¬ am_SL 12 = w → ¬ isW T n k w := fun hw g => hw (isW_uniq h g)
  unfold prLine prRest
  rw [sel_f (u (by decide)), sel_f (u (by decide)), sel_f (u (by decide)), sel_f (u (by decide)), sel_f (u (by decide)), sel_f (u (by decide)), sel_t h]
theorem prLine_13 {T : Nat → Int32} {n k : Nat} {S : Nat → Int32} (h : isW T n k (am_SL 13)) : prLine T n k S = prFea T n k S := by
  have u : ∀ {w : List Int32}, ¬ am_SL 13 = w → ¬ isW T n k w := fun hw g => hw (isW_uniq h g)
  unfold prLine prRest
  rw [sel_f (u (by decide)), sel_f (u (by decide)), sel_f (u (by decide)), sel_f (u (by decide)), sel_f (u (by decide)), sel_f (u (by decide)), sel_f (u (by decide)), sel_t h]
theorem prLine_14 {T : Nat → Int32} {n k : Nat} {S : Nat → Int32} (h : isW T n k (am_SL 14)) : prLine T n k S = prCha T n k S := by
  have u : ∀ {w : List Int32}, ¬ am_SL 14 = w → ¬ isW T n k w := fun hw g => hw (isW_uniq h g)
  unfold prLine prRest
  rw [sel_f (u (by decide)), sel_f (u (by decide)), sel_f (u (by decide)), sel_f (u (by decide)), sel_f (u (by decide)), sel_f (u (by decide)), sel_f (u (by decide)), sel_f (u (by decide)), sel_t h]
theorem prLine_15 {T : Nat → Int32} {n k : Nat} {S : Nat → Int32} (h : isW T n k (am_SL 15)) : prLine T n k S = prMis T n k S := by
  have u : ∀ {w : List Int32}, ¬ am_SL 15 = w → ¬ isW T n k w := fun hw g => hw (isW_uniq h g)
  unfold prLine prRest
  rw [sel_f (u (by decide)), sel_f (u (by decide)), sel_f (u (by decide)), sel_f (u (by decide)), sel_f (u (by decide)), sel_f (u (by decide)), sel_f (u (by decide)), sel_f (u (by decide)), sel_f (u (by decide)), sel_t h]
theorem prLine_no {T : Nat → Int32} {n k : Nat} {S : Nat → Int32} (h : ∀ j, j ∈ [2, 3, 4, 5, 6, 10, 12, 13, 14, 15] → ¬ isW T n k (am_SL j)) : prLine T n k S = .inl (spK T n k) := by
  unfold prLine prRest
  rw [sel_f (h 2 (by decide)), sel_f (h 3 (by decide)), sel_f (h 4 (by decide)), sel_f (h 5 (by decide)), sel_f (h 6 (by decide)), sel_f (h 10 (by decide)), sel_f (h 12 (by decide)), sel_f (h 13 (by decide)), sel_f (h 14 (by decide)), sel_f (h 15 (by decide))]
theorem FRm.u801 {sg s : Mg} {f : Nat → Int32} (h : FRm sg s) (hf : ∀ i, 709 ≤ i → f i = s 801 i) : FRm sg (va_up s 801 f) := ⟨fun c c1 c2 => (va_up_ne _ _ c2).trans (h.1 c c1 c2), fun k a b => by rw [va_up_ne _ _ (by decide)]; exact h.2.1 k a b, fun i hi => by rw [show va_up s 801 f 801 = f by simp [va_up], hf i hi]; exact h.2.2 i hi⟩
theorem s_215 {X : Nat × (Nat → Int32)} {d : Nat} {p : Nat → Nat} {sg : Mg} {B : Nat} {S : Nat → Int32} (hI : Inv B S) (hS : sg 801 = S) {T : Nat → Int32} {tn tk : Nat} (hM : MK T tn (nxK T tn tk) sg) (hE : sg 800 11 = nI (spK T tn tk)) : gF X (d + 6) 215 [vR 800] p sg (lnM (prMis T tn tk S) T tn sg p) := by
  have b0 := hI.b0; have b9 := hI.b9
  refine g_in (cd := k_215) (nL := 4) (rc := 13) rfl (g_A (a := 800) (kd := 0) (n := 12) rfl (by decide)) (g_c1 rfl) (b_215_0 hI hS hM hE (FRm.rf sg) ?_ ?_ ?_ ?_)
  · intro h1 s2 e2 h3 s6 e6 h5 s10 e10 cM cG cE cS
    have hv := h1.2.2.2
    have ha := (pgf_ok hI hv h3.2.2.2).1
    have hb := (pgf_ok hI hv h5.2.2.2).1
    refine g_cV0 (p' := p) rfl (args := [vR 800, vI (nI (numK T tn (nxK T tn tk))), vI (nI (pgf S (numK T tn (nxK T tn tk)) (numK T tn (nxK T tn (nxK T tn tk))))), vI (nI (pgf S (numK T tn (nxK T tn tk)) (numK T tn (nxK T tn (nxK T tn (nxK T tn tk))))))]) (rest := []) rfl rfl rfl (s_218 (d := d + 3) hI cS (by omega) (by omega) (by omega)) ?_
    refine g_pure 1 (i' := 31) (lv' := [some (vR 800), some (vI (nI (numK T tn (nxK T tn tk)))), some (vI (nI (numK T tn (nxK T tn (nxK T tn tk))))), some (vI (nI (numK T tn (nxK T tn (nxK T tn (nxK T tn tk))))))]) (st' := [vI (nI (numK T tn (nxK T tn (nxK T tn (nxK T tn tk)))))]) rfl ?_
    have hx := h5.2.2.2
    refine g_if1 (i' := 34) (P := False) rfl rfl ⟨fun h => absurd h (nI_pos (by omega)), False.elim⟩ False.elim (fun _ => ?_)
    refine g_pure 2 (i' := 35) (lv' := [some (vR 800), some (vI (nI (numK T tn (nxK T tn tk)))), some (vI (nI (numK T tn (nxK T tn (nxK T tn tk))))), some (vI (nI (numK T tn (nxK T tn (nxK T tn (nxK T tn tk))))))]) (st' := [vI 1]) rfl ?_
    refine g_bret rfl g_nar1 ?_
    unfold prMis
    rw [sel_t h1, sel_t h3, sel_t h5]
    exact ⟨_, ⟨cG.u801 (fun i hi => by rw [cS]; exact swS_ne (by omega) (by omega)), cM.eq (va_up_ne _ _ (by decide)) (va_up_ne _ _ (by decide)), by simp [va_up]⟩, rfl⟩
  · intro h1 s2 e2 h3 s6 e6 h5 s15 e15 cG cE cS
    unfold prMis
    rw [sel_t h1, sel_t h3, sel_f h5]
    exact ⟨_, ⟨cG, cE⟩, rfl⟩
  · intro h1 s2 e2 h3 s18 e18 cG cE cS
    unfold prMis
    rw [sel_t h1, sel_f h3]
    exact ⟨_, ⟨cG, cE⟩, rfl⟩
  · intro h1 s22 e22 cG cE cS
    unfold prMis
    rw [sel_f h1]
    exact ⟨_, ⟨cG, cE⟩, rfl⟩
/-- .. or a number stands behind it -/
def lnW (R : PRs) (T : Nat → Int32) (n : Nat) (sg : Mg) (p : Nat → Nat) (r : am_R) : Prop := lnM R T n sg p r ∨ ∃ q, R = .inr q ∧ isU T n q.1 ∧ ∃ s, (FRm sg s ∧ s 800 11 = nI (spK T n q.1)) ∧ r = gRv p s 0
theorem lnW_n {R : PRs} {T : Nat → Int32} {n : Nat} {sg : Mg} {p : Nat → Nat} {r : am_R} (h : lnM R T n sg p r) : ∃ s v, vp_nar .boolean v = v ∧ r = gRv p s v := by
  cases R with
  | inl f => obtain ⟨s, _, hr⟩ := h; exact ⟨s, 0, g_nar0, hr⟩
  | inr q => obtain ⟨s, _, hr⟩ := h; exact ⟨s, 1, g_nar1, hr⟩
theorem lnW_v {R : PRs} {T : Nat → Int32} {n : Nat} {sg : Mg} {p : Nat → Nat} {r : am_R} (h : lnW R T n sg p r) : ∃ s v, vp_nar .boolean v = v ∧ r = gRv p s v := by
  rcases h with h | ⟨q, _, _, s, _, hr⟩
  · exact lnW_n h
  · exact ⟨s, 0, g_nar0, hr⟩
theorem l_198 {X : Nat × (Nat → Int32)} {d : Nat} {p : Nat → Nat} {sg0 : Mg} {B : Nat} {T : Nat → Int32} {tn v m : Nat} (hv : v < 6) : ∀ (j q k w fb : Nat) (S : Nat → Int32) (s : Mg) (z4 : Option AV), q + j = m → Inv B S → sn S 0 = v → sn S 9 = m → w < 65536 → s 801 = S → MK T tn k s → s 800 11 = nI fb → FRm sg0 s → gW X (d + 6) k_198 12 [some (vR 800), some (vI (nI v)), some (vI (nI w)), some (vI (nI q)), z4] [] p s (lnW (vlK T tn m v j q k w S) T tn sg0 p)
  | 0, q, k, w, fb, S, s, z4, hq, hI, h0, h9, hw, hS, hM, hE, hG => by
    have b9 := hI.b9
    refine b_198_12 hI hS hM hE hG (by omega) (by omega) (by omega) (fun hge cM cG cE cS => ?_) (fun h => by omega) (fun h => by omega) (fun h => by omega)
    obtain ⟨hX, hk, a, ha9, ha, he⟩ := cM
    have hb := spK_ok (T := T) hk
    refine g_pure 1 (i' := 47) (lv' := [some (vR 800), some (vI (nI v)), some (vI (nI w)), some (vI (nI q)), z4]) (st' := [vR 800]) rfl ?_
    refine g_cV0E (p' := p) rfl (args := [vR 800]) (rest := []) rfl rfl rfl (s_188 (d := d + 4) hX ha9 ha) (fun s1 h1 => ?_)
    rw [he] at h1
    refine g_pure 3 (i' := 51) (lv' := [some (vR 800), some (vI (nI v)), some (vI (nI w)), some (vI (nI q)), z4]) (st' := [vI 57, vI 48, vR 800]) rfl ?_
    refine g_cV1 rfl (args := [vR 800, vI 48, vI 57]) (rest := []) rfl rfl rfl (s_189 (d := d + 5) (hX.mf h1.1) h1.2.1 hb.2.1) ?_
    have hc : (spK T tn k < tn ∧ ¬ T (spK T tn k) < 48 ∧ ¬ 57 < T (spK T tn k)) ↔ isU T tn k := by unfold isU isD; simp
    refine g_if1 (i' := 55) (P := ¬ dcN (spK T tn k < tn ∧ ¬ T (spK T tn k) < 48 ∧ ¬ 57 < T (spK T tn k)) = true) rfl rfl g_eqB (fun c => ?_) (fun c => ?_)
    · refine b_198_55 (d := d) (tk := k) (fb := spK T tn k) hI ((h1.1.1 801 (by decide)).trans cS) ⟨hX.mf h1.1, hk, spK T tn k, h1.2.1, hb.2.1, spK_sp hk⟩ h1.2.2 (cG.mf h1.1) (by omega) (fun s2 e2 cM cG cE cS => ?_)
      rw [h0] at cS
      exact Or.inl ⟨s2, ⟨cG, cM, cS⟩, rfl⟩
    · refine g_pure 1 (i' := 54) (lv' := [some (vR 800), some (vI (nI v)), some (vI (nI w)), some (vI (nI q)), z4]) (st' := [vI 0]) rfl ?_
      exact g_bret rfl g_nar0 (Or.inr ⟨_, rfl, hc.mp (dcN_i.mp (Classical.not_not.mp c)), s1, ⟨cG.mf h1.1, h1.2.2⟩, rfl⟩)
  | j + 1, q, k, w, fb, S, s, z4, hq, hI, h0, h9, hw, hS, hM, hE, hG => by
    have b9 := hI.b9
    refine b_198_12 hI hS hM hE hG (by omega) (by omega) (by omega) (fun h => by omega) (fun _ c s3 e3 hb s7 e7 cM cG cE cS => ?_) (fun _ c s3 e3 hb cM cG cE cS => ?_) (fun _ c s8 e8 cG cE cS => ?_)
    · have hlt := c.2.2.2
      rw [nI_bit1 (by omega) (by omega)] at hb
      rw [show vlK T tn m v (j + 1) q k w S = vlK T tn m v j (q + 1) (nxK T tn k) (w ||| 2 ^ numK T tn k) (upd S (17 + 16 * v + q) (nI (numK T tn k))) from sel_t ⟨by rw [← h9]; exact c, by simpa using hb⟩, nI_orbit (by omega)]
      exact l_198 hv j (q + 1) (nxK T tn k) (w ||| 2 ^ numK T tn k) _ _ s7 _ (by omega) (hI.tabout h0.symm hv (by omega)) (by rw [sn_upd (by omega)]; exact h0) (by rw [sn_upd (by omega)]; exact h9) (Nat.or_lt_two_pow (n := 16) hw (Nat.pow_lt_pow_right (by decide) (by omega))) cS cM cE cG
    · have hlt := c.2.2.2
      rw [nI_bit1 (by omega) (by omega)] at hb
      rw [show vlK T tn m v (j + 1) q k w S = .inl (spK T tn k) from sel_f (fun g => by rw [g.2] at hb; cases hb)]
      exact Or.inl ⟨_, ⟨cG, cE⟩, rfl⟩
    · rw [show vlK T tn m v (j + 1) q k w S = .inl (spK T tn k) from sel_f (fun g => c (by rw [h9]; exact g.1))]
      exact Or.inl ⟨_, ⟨cG, cE⟩, rfl⟩
theorem s_198 {X : Nat × (Nat → Int32)} {d : Nat} {p : Nat → Nat} {sg : Mg} {B : Nat} {S : Nat → Int32} (hI : Inv B S) (hS : sg 801 = S) {T : Nat → Int32} {tn tk : Nat} (hM : MK T tn (nxK T tn tk) sg) (hE : sg 800 11 = nI (spK T tn tk)) : gF X (d + 7) 198 [vR 800] p sg (lnW (prVil T tn tk S) T tn sg p) := by
  have b0 := hI.b0
  have b9 := hI.b9
  refine g_in (cd := k_198) (nL := 5) (rc := 13) rfl (g_A (a := 800) (kd := 0) (n := 12) rfl (by decide)) (g_c1 rfl) (b_198_0 hI hS hM hE (FRm.rf sg) (fun h0 cM cG cE cS => ?_) (fun h0 cM cG cE cS => ?_))
  · unfold prVil
    rw [sel_t (show sn S 0 < 6 by omega), hI.c0]
    exact l_198 (show sn S 0 < 6 by omega) (sn S 9) 0 _ 0 _ S sg none (by omega) hI rfl rfl (by decide) cS cM cE cG
  · unfold prVil
    rw [sel_f (show ¬ sn S 0 < 6 by omega)]
    exact Or.inl ⟨_, ⟨cG, cE⟩, rfl⟩
theorem s_192 {X : Nat × (Nat → Int32)} {d : Nat} {p : Nat → Nat} {sg : Mg} {B : Nat} {S : Nat → Int32} (hI : Inv B S) (hS : sg 801 = S) {T : Nat → Int32} {tn tk : Nat} (hM : ML T tn tk sg) : gF X (d + 8) 192 [vR 800] p sg (lnW (prLine T tn tk S) T tn sg p) := by
  refine g_in (cd := k_192) (nL := 2) (rc := 13) rfl (g_A (a := 800) (kd := 0) (n := 12) rfl (by decide)) (g_c1 rfl) ?_
  show gW X (d + 7) k_192 0 [some (vR 800), none] [] p sg _
  refine g_pure 2 (i' := 2) (lv' := [some (vR 800), none]) (st' := [vS 49, vR 800]) rfl ?_
  refine g_cV1 rfl (args := [vR 800, vS 49]) (rest := []) rfl rfl rfl (s_193w (d := d + 6) (by decide) (wL_of (by decide)) hM) ?_
  refine g_if1 (i' := 7) (P := ¬ dcN (isW T tn tk (am_SL 49)) = true) rfl rfl g_eqB (fun n12 => ?_) (fun h => ?_)
  rotate_left
  · have h := dcN_i.mp (Classical.not_not.mp h)
    have hk := hM.w (wL_of (by decide)) h
    rw [prLine_12 (show isW T tn tk (am_SL 12) from h)]
    refine g_pure 1 (i' := 5) (lv' := [some (vR 800), none]) (st' := [vR 800]) rfl ?_
    refine g_calV rfl (args := [vR 800]) (rest := []) rfl rfl (Nat.zero_le _) (s_194 (d := d + 1) hI hS hk hM.2.2.2) (fun q hq => ?_)
    obtain ⟨s, v, hv, rfl⟩ := lnW_n hq
    exact gK_v (g_bret rfl hv (Or.inl hq))
  have n12 : ¬ isW T tn tk (am_SL 12) := dcN_n.mp n12
  refine g_pure 2 (i' := 9) (lv' := [some (vR 800), none]) (st' := [vS 50, vR 800]) rfl ?_
  refine g_cV1 rfl (args := [vR 800, vS 50]) (rest := []) rfl rfl rfl (s_193w (d := d + 6) (by decide) (wL_of (by decide)) hM) ?_
  refine g_if1 (i' := 14) (P := ¬ dcN (isW T tn tk (am_SL 50)) = true) rfl rfl g_eqB (fun n2 => ?_) (fun h => ?_)
  rotate_left
  · have h := dcN_i.mp (Classical.not_not.mp h)
    have hk := hM.w (wL_of (by decide)) h
    rw [prLine_2 (show isW T tn tk (am_SL 2) from h)]
    refine g_pure 1 (i' := 12) (lv' := [some (vR 800), none]) (st' := [vR 800]) rfl ?_
    refine g_calV rfl (args := [vR 800]) (rest := []) rfl rfl (Nat.zero_le _) (s_198 (d := d) hI hS hk hM.2.2.2) (fun q hq => ?_)
    obtain ⟨s, v, hv, rfl⟩ := lnW_v hq
    exact gK_v (g_bret rfl hv hq)
  have n2 : ¬ isW T tn tk (am_SL 2) := dcN_n.mp n2
  refine g_pure 2 (i' := 16) (lv' := [some (vR 800), none]) (st' := [vS 51, vR 800]) rfl ?_
  refine g_cV1 rfl (args := [vR 800, vS 51]) (rest := []) rfl rfl rfl (s_193w (d := d + 6) (by decide) (wL_of (by decide)) hM) ?_
  refine g_if1 (i' := 21) (P := ¬ dcN (isW T tn tk (am_SL 51)) = true) rfl rfl g_eqB (fun n3 => ?_) (fun h => ?_)
  rotate_left
  · have h := dcN_i.mp (Classical.not_not.mp h)
    have hk := hM.w (wL_of (by decide)) h
    rw [prLine_3 (show isW T tn tk (am_SL 3) from h)]
    refine g_pure 1 (i' := 19) (lv' := [some (vR 800), none]) (st' := [vR 800]) rfl ?_
    refine g_calV rfl (args := [vR 800]) (rest := []) rfl rfl (Nat.zero_le _) (s_202 (d := d + 1) hI hS hk hM.2.2.2) (fun q hq => ?_)
    obtain ⟨s, v, hv, rfl⟩ := lnW_n hq
    exact gK_v (g_bret rfl hv (Or.inl hq))
  have n3 : ¬ isW T tn tk (am_SL 3) := dcN_n.mp n3
  refine g_pure 2 (i' := 23) (lv' := [some (vR 800), none]) (st' := [vS 52, vR 800]) rfl ?_
  refine g_cV1 rfl (args := [vR 800, vS 52]) (rest := []) rfl rfl rfl (s_193w (d := d + 6) (by decide) (wL_of (by decide)) hM) ?_
  refine g_if1 (i' := 28) (P := ¬ dcN (isW T tn tk (am_SL 52)) = true) rfl rfl g_eqB (fun n4 => ?_) (fun h => ?_)
  rotate_left
  · have h := dcN_i.mp (Classical.not_not.mp h)
    have hk := hM.w (wL_of (by decide)) h
    rw [prLine_4 (show isW T tn tk (am_SL 4) from h)]
    refine g_pure 1 (i' := 26) (lv' := [some (vR 800), none]) (st' := [vR 800]) rfl ?_
    refine g_calV rfl (args := [vR 800]) (rest := []) rfl rfl (Nat.zero_le _) (s_206 (d := d + 1) hI hS hk hM.2.2.2) (fun q hq => ?_)
    obtain ⟨s, v, hv, rfl⟩ := lnW_n hq
    exact gK_v (g_bret rfl hv (Or.inl hq))
  have n4 : ¬ isW T tn tk (am_SL 4) := dcN_n.mp n4
  refine g_pure 2 (i' := 30) (lv' := [some (vR 800), none]) (st' := [vS 53, vR 800]) rfl ?_
  refine g_cV1 rfl (args := [vR 800, vS 53]) (rest := []) rfl rfl rfl (s_193w (d := d + 6) (by decide) (wL_of (by decide)) hM) ?_
  refine g_if1 (i' := 35) (P := ¬ dcN (isW T tn tk (am_SL 53)) = true) rfl rfl g_eqB (fun n5 => ?_) (fun h => ?_)
  rotate_left
  · have h := dcN_i.mp (Classical.not_not.mp h)
    have hk := hM.w (wL_of (by decide)) h
    rw [prLine_5 (show isW T tn tk (am_SL 5) from h)]
    refine g_pure 1 (i' := 33) (lv' := [some (vR 800), none]) (st' := [vR 800]) rfl ?_
    refine g_calV rfl (args := [vR 800]) (rest := []) rfl rfl (Nat.zero_le _) (s_208 (d := d + 1) hI hS hk hM.2.2.2) (fun q hq => ?_)
    obtain ⟨s, v, hv, rfl⟩ := lnW_n hq
    exact gK_v (g_bret rfl hv (Or.inl hq))
  have n5 : ¬ isW T tn tk (am_SL 5) := dcN_n.mp n5
  refine g_pure 2 (i' := 37) (lv' := [some (vR 800), none]) (st' := [vS 54, vR 800]) rfl ?_
  refine g_cV1 rfl (args := [vR 800, vS 54]) (rest := []) rfl rfl rfl (s_193w (d := d + 6) (by decide) (wL_of (by decide)) hM) ?_
  refine g_if1 (i' := 42) (P := ¬ dcN (isW T tn tk (am_SL 54)) = true) rfl rfl g_eqB (fun n6 => ?_) (fun h => ?_)
  rotate_left
  · have h := dcN_i.mp (Classical.not_not.mp h)
    have hk := hM.w (wL_of (by decide)) h
    rw [prLine_6 (show isW T tn tk (am_SL 6) from h)]
    refine g_pure 1 (i' := 40) (lv' := [some (vR 800), none]) (st' := [vR 800]) rfl ?_
    refine g_calV rfl (args := [vR 800]) (rest := []) rfl rfl (Nat.zero_le _) (s_210 (d := d + 1) hI hS hk hM.2.2.2) (fun q hq => ?_)
    obtain ⟨s, v, hv, rfl⟩ := lnW_n hq
    exact gK_v (g_bret rfl hv (Or.inl hq))
  have n6 : ¬ isW T tn tk (am_SL 6) := dcN_n.mp n6
  refine g_pure 2 (i' := 44) (lv' := [some (vR 800), none]) (st' := [vS 58, vR 800]) rfl ?_
  refine g_cV1 rfl (args := [vR 800, vS 58]) (rest := []) rfl rfl rfl (s_193w (d := d + 6) (by decide) (wL_of (by decide)) hM) ?_
  refine g_if1 (i' := 49) (P := ¬ dcN (isW T tn tk (am_SL 58)) = true) rfl rfl g_eqB (fun n10 => ?_) (fun h => ?_)
  rotate_left
  · have h := dcN_i.mp (Classical.not_not.mp h)
    have hk := hM.w (wL_of (by decide)) h
    rw [prLine_10 (show isW T tn tk (am_SL 10) from h)]
    refine g_pure 1 (i' := 47) (lv' := [some (vR 800), none]) (st' := [vR 800]) rfl ?_
    refine g_calV rfl (args := [vR 800]) (rest := []) rfl rfl (Nat.zero_le _) (s_213 (d := d + 1) hI hS hk hM.2.2.2) (fun q hq => ?_)
    obtain ⟨s, v, hv, rfl⟩ := lnW_n hq
    exact gK_v (g_bret rfl hv (Or.inl hq))
  have n10 : ¬ isW T tn tk (am_SL 10) := dcN_n.mp n10
  refine g_pure 2 (i' := 51) (lv' := [some (vR 800), none]) (st' := [vS 60, vR 800]) rfl ?_
  refine g_cV1 rfl (args := [vR 800, vS 60]) (rest := []) rfl rfl rfl (s_193w (d := d + 6) (by decide) (wL_of (by decide)) hM) ?_
  refine g_if1 (i' := 56) (P := ¬ dcN (isW T tn tk (am_SL 60)) = true) rfl rfl g_eqB (fun n15 => ?_) (fun h => ?_)
  rotate_left
  · have h := dcN_i.mp (Classical.not_not.mp h)
    have hk := hM.w (wL_of (by decide)) h
    rw [prLine_15 (show isW T tn tk (am_SL 15) from h)]
    refine g_pure 1 (i' := 54) (lv' := [some (vR 800), none]) (st' := [vR 800]) rfl ?_
    refine g_calV rfl (args := [vR 800]) (rest := []) rfl rfl (Nat.zero_le _) (s_215 (d := d + 1) hI hS hk hM.2.2.2) (fun q hq => ?_)
    obtain ⟨s, v, hv, rfl⟩ := lnW_n hq
    exact gK_v (g_bret rfl hv (Or.inl hq))
  have n15 : ¬ isW T tn tk (am_SL 15) := dcN_n.mp n15
  refine g_pure 2 (i' := 58) (lv' := [some (vR 800), none]) (st' := [vS 61, vR 800]) rfl ?_
  refine g_cV1 rfl (args := [vR 800, vS 61]) (rest := []) rfl rfl rfl (s_193w (d := d + 6) (by decide) (wL_of (by decide)) hM) ?_
  refine g_if1 (i' := 77) (P := ¬ dcN (isW T tn tk (am_SL 61)) = true) rfl rfl g_eqB (fun n14 => ?_) (fun h => ?_)
  rotate_left
  · have h := dcN_i.mp (Classical.not_not.mp h)
    have hk := hM.w (wL_of (by decide)) h
    rw [prLine_14 (show isW T tn tk (am_SL 14) from h)]
    refine b_192_60 (d := d) hI hS hk hM.2.2.2 (FRm.rf sg) ?_ ?_
    · intro h1 s2 e2 cM cG cE cS
      refine g_ast (k := 15) rfl (g_A (a := 801) (kd := 1) (n := 2407) rfl (by decide)) (by decide) rfl (by decide) ?_
      refine g_pure 3 (i' := 71) (lv' := [some (vR 800), none]) (st' := [vI 15, vR 801]) rfl ?_
      refine g_ald (k := 15) rfl (g_A (a := 801) (kd := 1) (n := 2407) rfl (by decide)) (by decide) rfl (by decide) (show _ = nI (numK T tn (nxK T tn tk)) from mu_self) ?_
      refine g_if1 (i' := 75) (P := False) rfl rfl ⟨fun h => absurd h (nI_pos (by have := h1.2.2.2; omega)), False.elim⟩ False.elim (fun _ => ?_)
      refine g_pure 2 (i' := 76) (lv' := [some (vR 800), none]) (st' := [vI 1]) rfl ?_
      refine g_bret rfl g_nar1 (Or.inl ?_)
      unfold prCha
      rw [sel_t h1]
      exact ⟨_, ⟨cG.m801 (by decide), cM.eq (mu_ne (by decide)) (mu_ne (by decide)), by rw [mu_row, cS]⟩, rfl⟩
    · intro h1 s4 e4 cG cE cS
      refine g_ast (k := 15) rfl (g_A (a := 801) (kd := 1) (n := 2407) rfl (by decide)) (by decide) rfl (by decide) ?_
      refine g_pure 3 (i' := 71) (lv' := [some (vR 800), none]) (st' := [vI 15, vR 801]) rfl ?_
      refine g_ald (k := 15) rfl (g_A (a := 801) (kd := 1) (n := 2407) rfl (by decide)) (by decide) rfl (by decide) (show _ = -1 from mu_self) ?_
      refine g_if1 (i' := 75) (P := True) rfl rfl ⟨fun _ => trivial, fun _ => (by decide : (-1 : Int32) < 0)⟩ (fun _ => ?_) (fun h => absurd trivial h)
      refine g_pure 1 (i' := 76) (lv' := [some (vR 800), none]) (st' := [vI 0]) rfl ?_
      refine g_bret rfl g_nar0 (Or.inl ?_)
      unfold prCha
      rw [sel_f h1]
      exact ⟨_, ⟨cG.m801 (by decide), by rw [mu_ne (by decide)]; exact cE⟩, rfl⟩
  have n14 : ¬ isW T tn tk (am_SL 14) := dcN_n.mp n14
  refine g_pure 2 (i' := 79) (lv' := [some (vR 800), none]) (st' := [vS 62, vR 800]) rfl ?_
  refine g_cV1 rfl (args := [vR 800, vS 62]) (rest := []) rfl rfl rfl (s_193w (d := d + 6) (by decide) (wL_of (by decide)) hM) ?_
  refine g_if1 (i' := 83) (P := dcN (isW T tn tk (am_SL 62)) = true) rfl rfl g_neB (fun h => ?_) (fun h => ?_)
  · have h := dcN_i.mp h
    have hk := hM.w (wL_of (by decide)) h
    rw [prLine_13 (show isW T tn tk (am_SL 13) from h)]
    refine b_192_83 (d := d) hI hS hk hM.2.2.2 (FRm.rf sg) ?_ ?_
    · intro h1 s2 e2 s5 e5 cM cG cE cS
      refine Or.inl ?_
      unfold prFea
      rw [sel_t h1]
      exact ⟨s5, ⟨cG, cM, cS⟩, rfl⟩
    · intro h1 s7 e7 cG cE cS
      refine Or.inl ?_
      unfold prFea
      rw [sel_f h1]
      exact ⟨s7, ⟨cG, cE⟩, rfl⟩
  · have n13 : ¬ isW T tn tk (am_SL 13) := dcN_n.mp h
    refine g_pure 1 (i' := 82) (lv' := [some (vR 800), none]) (st' := [vI 0]) rfl ?_
    refine g_bret rfl g_nar0 (Or.inl ?_)
    rw [prLine_no (fun j hj => by
      simp only [List.mem_cons, List.not_mem_nil, or_false] at hj
      rcases hj with rfl | rfl | rfl | rfl | rfl | rfl | rfl | rfl | rfl | rfl
      · exact n2
      · exact n3
      · exact n4
      · exact n5
      · exact n6
      · exact n10
      · exact n12
      · exact n13
      · exact n14
      · exact n15)]
    exact ⟨sg, ⟨FRm.rf sg, hM.2.2.2⟩, rfl⟩
