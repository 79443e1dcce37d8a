/-! COUNTRY: the lines, in the reference (made by wip/whole/gen89zx.py) -/
/-- how a line ends in the reference -/
def lnM (R : PRs) (T : Nat → Int32) (n : Nat) (sg : Mg) (p : Nat → Nat) (r : am_R) : Prop := match R with
  | .inl f => ∃ s, (FRm sg s ∧ s 800 11 = nI f) ∧ r = gRv p s 0
  | .inr q => ∃ s, (FRm sg s ∧ MK T n q.1 s ∧ s 801 = q.2) ∧ r = gRv p s 1
theorem sel_T {α : Type} {a b : α} : sel True a b = a := sel_t trivial
theorem sel_F {α : Type} {a b : α} : sel False a b = b := sel_f id
theorem dcN_p {P : Prop} : (dcN P = true) = P := propext dcN_i

theorem b_202_0 {X : Nat × (Nat → Int32)} {d : Nat} {p : Nat → Nat} {sg : Mg} {Q : am_R → Prop} {B : Nat} {S : Nat → Int32} (hI : Inv B S) (hS : sg 801 = S) {T : Nat → Int32} {tn tk : Nat} (hM : MK T tn (nxK T tn tk) sg) (hE : sg 800 11 = nI (spK T tn tk)) {sg0 : Mg} (hG : FRm sg0 sg)
    (o1 : (¬ sn S 1 = 8) → (tkP T tn (nxK T tn tk) 4 0 (sn S 0)) → ∀ s3 : Mg, (MK T tn (nxK T tn (nxK T tn tk)) s3 ∧ NR T tn (nxK T tn tk) sg s3) → (tkP T tn (nxK T tn (nxK T tn tk)) 4 0 10000) → ∀ s7 : Mg, (MK T tn (nxK T tn (nxK T tn (nxK T tn tk))) s7 ∧ NR T tn (nxK T tn (nxK T tn tk)) s3 s7) → ∀ s10 : Mg, s10 = mu s7 801 (113 + 6 * (sn S 1)) (nI (numK T tn (nxK T tn tk))) → ∀ s11 : Mg, s11 = mu s10 801 (113 + 6 * (sn S 1) + 1) (-1) → ∀ s12 : Mg, s12 = mu s11 801 (113 + 6 * (sn S 1) + 2) (-1) → ∀ s13 : Mg, s13 = mu s12 801 (113 + 6 * (sn S 1) + 3) (nI (numK T tn (nxK T tn (nxK T tn tk)))) → ∀ s14 : Mg, s14 = mu s13 801 (113 + 6 * (sn S 1) + 4) 0 → ∀ s15 : Mg, s15 = mu s14 801 (113 + 6 * (sn S 1) + 5) 0 → ∀ s16 : Mg, s16 = mu s15 801 11 (S 11 + nI (numK T tn (nxK T tn (nxK T tn tk)))) → ∀ s17 : Mg, s17 = mu s16 801 1 (nI (sn S 1 + 1)) → MK T tn (nxK T tn (nxK T tn (nxK T tn tk))) s17 → FRm sg0 s17 → s17 800 11 = nI (spK T tn (nxK T tn (nxK T tn tk))) → s17 801 = (upd (upd (upd (upd (upd (upd (upd (upd S (113 + 6 * (sn S 1)) (nI (numK T tn (nxK T tn tk)))) (113 + 6 * (sn S 1) + 1) (-1)) (113 + 6 * (sn S 1) + 2) (-1)) (113 + 6 * (sn S 1) + 3) (nI (numK T tn (nxK T tn (nxK T tn tk))))) (113 + 6 * (sn S 1) + 4) 0) (113 + 6 * (sn S 1) + 5) 0) 11 (S 11 + nI (numK T tn (nxK T tn (nxK T tn tk))))) 1 (nI (sn S 1 + 1))) → Q (gRv p s17 1))
    (o2 : (¬ sn S 1 = 8) → (tkP T tn (nxK T tn tk) 4 0 (sn S 0)) → ∀ s3 : Mg, (MK T tn (nxK T tn (nxK T tn tk)) s3 ∧ NR T tn (nxK T tn tk) sg s3) → (¬ tkP T tn (nxK T tn (nxK T tn tk)) 4 0 10000) → ∀ s18 : Mg, (NR T tn (nxK T tn (nxK T tn tk)) s3 s18) → FRm sg0 s18 → s18 800 11 = nI (spK T tn (nxK T tn (nxK T tn tk))) → s18 801 = S → Q (gRv p s18 0))
    (o3 : (¬ sn S 1 = 8) → (¬ tkP T tn (nxK T tn tk) 4 0 (sn S 0)) → ∀ s20 : Mg, (NR T tn (nxK T tn tk) sg s20) → FRm sg0 s20 → s20 800 11 = nI (spK T tn (nxK T tn tk)) → s20 801 = S → Q (gRv p s20 0))
    (o4 : (sn S 1 = 8) → MK T tn (nxK T tn tk) sg → FRm sg0 sg → sg 800 11 = nI (spK T tn tk) → sg 801 = S → Q (gRv p sg 0)) :
    gW X (d + 5) k_202 0 [some (vR 800), none, none, none] [] p sg Q := by
  have b0 := hI.b0; have b1 := hI.b1; have b2 := hI.b2; have b3 := hI.b3; have b4 := hI.b4; have b5 := hI.b5; have b6 := hI.b6; have b7 := hI.b7; have b8 := hI.b8; have b9 := hI.b9; have b14 := hI.b14
  refine g_pure 1 (i' := 1) (lv' := [some (vR 800), none, none, none]) (st' := [vR 800]) rfl ?_
  refine g_cV1 rfl (args := [vR 800]) (rest := []) rfl rfl rfl (s_203 (d := d + 4) hS) ?_
  refine g_pure 3 (i' := 5) (lv' := [some (vR 800), some (vI (S 1)), none, none]) (st' := [vI 8, vI (S 1)]) rfl ?_
  refine g_if2 (i' := 8) (P := ¬ sn S 1 = 8) rfl rfl (g_neN (show S 1 = nI (sn S 1) from (hI.c1)) (show 8 = nI 8 from (show (8 : Int32) = nI 8 from rfl)) (by omega) (by omega)) (fun h1 => ?_) (fun h1 => ?_)
  · refine g_pure 1 (i' := 9) (lv' := [some (vR 800), some (vI (S 1)), none, none]) (st' := [vR 800]) rfl ?_
    by_cases h2 : tkP T tn (nxK T tn tk) 4 0 (sn S 0)
    · refine g_cV1E rfl (args := [vR 800]) (rest := []) rfl rfl rfl (s_204a (d := d) hM (((congrFun hS 0)).trans (hI.c0)) (by omega) (by assumption)) (fun s3 es3 => ?_)
      have hSs3 : s3 801 = S := (es3.2.1.1 801 (by decide)).trans hS
      have hMs3 := es3.1
      have hEs3 := es3.2.2
      have hGs3 := hG.mf es3.2.1
      have t4 := (show tkP T tn (nxK T tn tk) 4 0 (sn S 0) by assumption).2.2.2
      refine g_pure 2 (i' := 12) (lv' := [some (vR 800), some (vI (S 1)), some (vI (nI (numK T tn (nxK T tn tk)))), none]) (st' := [vI (nI (numK T tn (nxK T tn tk)))]) rfl ?_
      refine g_if1 (i' := 15) (P := 0 ≤ numK T tn (nxK T tn tk)) rfl rfl (g_geN (show nI (numK T tn (nxK T tn tk)) = nI (numK T tn (nxK T tn tk)) from (rfl : nI (numK T tn (nxK T tn tk)) = nI (numK T tn (nxK T tn tk)))) (show 0 = nI 0 from (show (0 : Int32) = nI 0 from rfl)) (by omega) (by omega)) (fun _ => ?_) (fun h5 => absurd (by omega) h5)
      refine g_pure 3 (i' := 18) (lv' := [some (vR 800), some (vI (S 1)), some (vI (nI (numK T tn (nxK T tn tk)))), none]) (st' := [vI 9999, vI 0, vR 800]) rfl ?_
      by_cases h6 : tkP T tn (nxK T tn (nxK T tn tk)) 4 0 10000
      · refine gW_eq (st' := [vI 9999, vI (nI 0), vR 800]) rfl (by rw [(show (0 : Int32) = nI 0 from rfl)]) rfl ?_
        refine g_cV1E rfl (args := [vR 800, vI (nI 0), vI 9999]) (rest := []) rfl rfl rfl (s_196a (m := 10000) (d := d + 1) hMs3 (by omega) (by omega) (show (9999 : Int32) = nI 10000 - 1 from by decide) (by assumption)) (fun s7 es7 => ?_)
        have hSs7 : s7 801 = S := (es7.2.1.1 801 (by decide)).trans hSs3
        have hMs7 := es7.1
        have hEs7 := es7.2.2
        have hGs7 := hGs3.mf es7.2.1
        have t8 := (show tkP T tn (nxK T tn (nxK T tn tk)) 4 0 10000 by assumption).2.2
        refine g_pure 2 (i' := 21) (lv' := [some (vR 800), some (vI (S 1)), some (vI (nI (numK T tn (nxK T tn tk)))), some (vI (nI (numK T tn (nxK T tn (nxK T tn tk)))))]) (st' := [vI (nI (numK T tn (nxK T tn (nxK T tn tk))))]) rfl ?_
        refine g_if1 (i' := 24) (P := 0 ≤ numK T tn (nxK T tn (nxK T tn tk))) rfl rfl (g_geN (show nI (numK T tn (nxK T tn (nxK T tn tk))) = nI (numK T tn (nxK T tn (nxK T tn tk))) from (rfl : nI (numK T tn (nxK T tn (nxK T tn tk))) = nI (numK T tn (nxK T tn (nxK T tn tk))))) (show 0 = nI 0 from (show (0 : Int32) = nI 0 from rfl)) (by omega) (by omega)) (fun _ => ?_) (fun h9 => absurd (by omega) h9)
        refine g_pure 4 (i' := 28) (lv' := [some (vR 800), some (vI (S 1)), some (vI (nI (numK T tn (nxK T tn tk)))), some (vI (nI (numK T tn (nxK T tn (nxK T tn tk)))))]) (st' := [vI (nI (numK T tn (nxK T tn tk))), vI 0, vI (S 1), vR 800]) rfl ?_
        refine gW_eq (st' := [vI (nI (numK T tn (nxK T tn tk))), vI (nI 0), vI (nI (sn S 1)), vR 800]) rfl (by rw [(show S 1 = nI (sn S 1) from (hI.c1)), (show (0 : Int32) = nI 0 from rfl)]) rfl ?_
        refine g_cV0 rfl (args := [vR 800, vI (nI (sn S 1)), vI (nI 0), vI (nI (numK T tn (nxK T tn tk)))]) (rest := []) rfl rfl rfl (s_205 (d := d + 4) (by omega) (by omega)) ?_
        refine g_setv (fun s10 es10 => ?_)
        have hMs10 : MK T tn (nxK T tn (nxK T tn (nxK T tn tk))) s10 := hMs7.eq (by rw [es10, mu_ne (by decide)]) (by rw [es10, mu_ne (by decide)])
        have hEs10 : s10 800 11 = nI (spK T tn (nxK T tn (nxK T tn tk))) := by rw [es10, mu_ne (by decide)]; exact hEs7
        have hGs10 : FRm sg0 s10 := by rw [es10]; exact hGs7.m801 (by omega)
        have hSs10 : s10 801 = upd S (113 + 6 * (sn S 1)) (nI (numK T tn (nxK T tn tk))) := by rw [es10, mu_row, hSs7]; rfl
        refine g_pure 4 (i' := 33) (lv' := [some (vR 800), some (vI (S 1)), some (vI (nI (numK T tn (nxK T tn tk)))), some (vI (nI (numK T tn (nxK T tn (nxK T tn tk)))))]) (st' := [vI (-1), vI 1, vI (S 1), vR 800]) rfl ?_
        refine gW_eq (st' := [vI (-1), vI (nI 1), vI (nI (sn S 1)), vR 800]) rfl (by rw [(show S 1 = nI (sn S 1) from (hI.c1)), (show (1 : Int32) = nI 1 from rfl)]) rfl ?_
        refine g_cV0 rfl (args := [vR 800, vI (nI (sn S 1)), vI (nI 1), vI (-1)]) (rest := []) rfl rfl rfl (s_205 (d := d + 4) (by omega) (by omega)) ?_
        refine g_setv (fun s11 es11 => ?_)
        have hMs11 : MK T tn (nxK T tn (nxK T tn (nxK T tn tk))) s11 := hMs10.eq (by rw [es11, mu_ne (by decide)]) (by rw [es11, mu_ne (by decide)])
        have hEs11 : s11 800 11 = nI (spK T tn (nxK T tn (nxK T tn tk))) := by rw [es11, mu_ne (by decide)]; exact hEs10
        have hGs11 : FRm sg0 s11 := by rw [es11]; exact hGs10.m801 (by omega)
        have hSs11 : s11 801 = upd (upd S (113 + 6 * (sn S 1)) (nI (numK T tn (nxK T tn tk)))) (113 + 6 * (sn S 1) + 1) (-1) := by rw [es11, mu_row, hSs10]
        refine g_pure 4 (i' := 38) (lv' := [some (vR 800), some (vI (S 1)), some (vI (nI (numK T tn (nxK T tn tk)))), some (vI (nI (numK T tn (nxK T tn (nxK T tn tk)))))]) (st' := [vI (-1), vI 2, vI (S 1), vR 800]) rfl ?_
        refine gW_eq (st' := [vI (-1), vI (nI 2), vI (nI (sn S 1)), vR 800]) rfl (by rw [(show S 1 = nI (sn S 1) from (hI.c1)), (show (2 : Int32) = nI 2 from rfl)]) rfl ?_
        refine g_cV0 rfl (args := [vR 800, vI (nI (sn S 1)), vI (nI 2), vI (-1)]) (rest := []) rfl rfl rfl (s_205 (d := d + 4) (by omega) (by omega)) ?_
        refine g_setv (fun s12 es12 => ?_)
        have hMs12 : MK T tn (nxK T tn (nxK T tn (nxK T tn tk))) s12 := hMs11.eq (by rw [es12, mu_ne (by decide)]) (by rw [es12, mu_ne (by decide)])
        have hEs12 : s12 800 11 = nI (spK T tn (nxK T tn (nxK T tn tk))) := by rw [es12, mu_ne (by decide)]; exact hEs11
        have hGs12 : FRm sg0 s12 := by rw [es12]; exact hGs11.m801 (by omega)
        have hSs12 : s12 801 = upd (upd (upd S (113 + 6 * (sn S 1)) (nI (numK T tn (nxK T tn tk)))) (113 + 6 * (sn S 1) + 1) (-1)) (113 + 6 * (sn S 1) + 2) (-1) := by rw [es12, mu_row, hSs11]
        refine g_pure 4 (i' := 43) (lv' := [some (vR 800), some (vI (S 1)), some (vI (nI (numK T tn (nxK T tn tk)))), some (vI (nI (numK T tn (nxK T tn (nxK T tn tk)))))]) (st' := [vI (nI (numK T tn (nxK T tn (nxK T tn tk)))), vI 3, vI (S 1), vR 800]) rfl ?_
        refine gW_eq (st' := [vI (nI (numK T tn (nxK T tn (nxK T tn tk)))), vI (nI 3), vI (nI (sn S 1)), vR 800]) rfl (by rw [(show S 1 = nI (sn S 1) from (hI.c1)), (show (3 : Int32) = nI 3 from rfl)]) rfl ?_
        refine g_cV0 rfl (args := [vR 800, vI (nI (sn S 1)), vI (nI 3), vI (nI (numK T tn (nxK T tn (nxK T tn tk))))]) (rest := []) rfl rfl rfl (s_205 (d := d + 4) (by omega) (by omega)) ?_
        refine g_setv (fun s13 es13 => ?_)
        have hMs13 : MK T tn (nxK T tn (nxK T tn (nxK T tn tk))) s13 := hMs12.eq (by rw [es13, mu_ne (by decide)]) (by rw [es13, mu_ne (by decide)])
        have hEs13 : s13 800 11 = nI (spK T tn (nxK T tn (nxK T tn tk))) := by rw [es13, mu_ne (by decide)]; exact hEs12
        have hGs13 : FRm sg0 s13 := by rw [es13]; exact hGs12.m801 (by omega)
        have hSs13 : s13 801 = upd (upd (upd (upd S (113 + 6 * (sn S 1)) (nI (numK T tn (nxK T tn tk)))) (113 + 6 * (sn S 1) + 1) (-1)) (113 + 6 * (sn S 1) + 2) (-1)) (113 + 6 * (sn S 1) + 3) (nI (numK T tn (nxK T tn (nxK T tn tk)))) := by rw [es13, mu_row, hSs12]
        refine g_pure 4 (i' := 48) (lv' := [some (vR 800), some (vI (S 1)), some (vI (nI (numK T tn (nxK T tn tk)))), some (vI (nI (numK T tn (nxK T tn (nxK T tn tk)))))]) (st' := [vI 0, vI 4, vI (S 1), vR 800]) rfl ?_
        refine gW_eq (st' := [vI 0, vI (nI 4), vI (nI (sn S 1)), vR 800]) rfl (by rw [(show S 1 = nI (sn S 1) from (hI.c1)), (show (4 : Int32) = nI 4 from rfl)]) rfl ?_
        refine g_cV0 rfl (args := [vR 800, vI (nI (sn S 1)), vI (nI 4), vI 0]) (rest := []) rfl rfl rfl (s_205 (d := d + 4) (by omega) (by omega)) ?_
        refine g_setv (fun s14 es14 => ?_)
        have hMs14 : MK T tn (nxK T tn (nxK T tn (nxK T tn tk))) s14 := hMs13.eq (by rw [es14, mu_ne (by decide)]) (by rw [es14, mu_ne (by decide)])
        have hEs14 : s14 800 11 = nI (spK T tn (nxK T tn (nxK T tn tk))) := by rw [es14, mu_ne (by decide)]; exact hEs13
        have hGs14 : FRm sg0 s14 := by rw [es14]; exact hGs13.m801 (by omega)
        have hSs14 : s14 801 = upd (upd (upd (upd (upd S (113 + 6 * (sn S 1)) (nI (numK T tn (nxK T tn tk)))) (113 + 6 * (sn S 1) + 1) (-1)) (113 + 6 * (sn S 1) + 2) (-1)) (113 + 6 * (sn S 1) + 3) (nI (numK T tn (nxK T tn (nxK T tn tk))))) (113 + 6 * (sn S 1) + 4) 0 := by rw [es14, mu_row, hSs13]
        refine g_pure 4 (i' := 53) (lv' := [some (vR 800), some (vI (S 1)), some (vI (nI (numK T tn (nxK T tn tk)))), some (vI (nI (numK T tn (nxK T tn (nxK T tn tk)))))]) (st' := [vI 0, vI 5, vI (S 1), vR 800]) rfl ?_
        refine gW_eq (st' := [vI 0, vI (nI 5), vI (nI (sn S 1)), vR 800]) rfl (by rw [(show S 1 = nI (sn S 1) from (hI.c1)), (show (5 : Int32) = nI 5 from rfl)]) rfl ?_
        refine g_cV0 rfl (args := [vR 800, vI (nI (sn S 1)), vI (nI 5), vI 0]) (rest := []) rfl rfl rfl (s_205 (d := d + 4) (by omega) (by omega)) ?_
        refine g_setv (fun s15 es15 => ?_)
        have hMs15 : MK T tn (nxK T tn (nxK T tn (nxK T tn tk))) s15 := hMs14.eq (by rw [es15, mu_ne (by decide)]) (by rw [es15, mu_ne (by decide)])
        have hEs15 : s15 800 11 = nI (spK T tn (nxK T tn (nxK T tn tk))) := by rw [es15, mu_ne (by decide)]; exact hEs14
        have hGs15 : FRm sg0 s15 := by rw [es15]; exact hGs14.m801 (by omega)
        have hSs15 : s15 801 = upd (upd (upd (upd (upd (upd S (113 + 6 * (sn S 1)) (nI (numK T tn (nxK T tn tk)))) (113 + 6 * (sn S 1) + 1) (-1)) (113 + 6 * (sn S 1) + 2) (-1)) (113 + 6 * (sn S 1) + 3) (nI (numK T tn (nxK T tn (nxK T tn tk))))) (113 + 6 * (sn S 1) + 4) 0) (113 + 6 * (sn S 1) + 5) 0 := by rw [es15, mu_row, hSs14]
        refine g_pure 4 (i' := 58) (lv' := [some (vR 800), some (vI (S 1)), some (vI (nI (numK T tn (nxK T tn tk)))), some (vI (nI (numK T tn (nxK T tn (nxK T tn tk)))))]) (st' := [vI 11, vR 801, vI 11, vR 801]) rfl ?_
        refine g_ald rfl (g_A (a := 801) (kd := 1) (n := 2407) rfl (by decide)) (by decide) (show 11 = nI 11 from (show (11 : Int32) = nI 11 from rfl)) (by decide) (show _ = S 11 from (((((((congrFun hSs15 11)).trans (upd_ne (by omega))).trans (upd_ne (by omega))).trans (upd_ne (by omega))).trans (upd_ne (by omega))).trans (upd_ne (by omega))).trans (upd_ne (by omega))) ?_
        refine g_pure 2 (i' := 61) (lv' := [some (vR 800), some (vI (S 1)), some (vI (nI (numK T tn (nxK T tn tk)))), some (vI (nI (numK T tn (nxK T tn (nxK T tn tk)))))]) (st' := [vI (S 11 + nI (numK T tn (nxK T tn (nxK T tn tk)))), vI 11, vR 801]) rfl ?_
        refine g_ast rfl (g_A (a := 801) (kd := 1) (n := 2407) rfl (by decide)) (by decide) (show 11 = nI 11 from (show (11 : Int32) = nI 11 from rfl)) (by decide) ?_
        refine g_setv (fun s16 es16 => ?_)
        have hMs16 : MK T tn (nxK T tn (nxK T tn (nxK T tn tk))) s16 := hMs15.eq (by rw [es16, mu_ne (by decide)]) (by rw [es16, mu_ne (by decide)])
        have hEs16 : s16 800 11 = nI (spK T tn (nxK T tn (nxK T tn tk))) := by rw [es16, mu_ne (by decide)]; exact hEs15
        have hGs16 : FRm sg0 s16 := by rw [es16]; exact hGs15.m801 (by omega)
        have hSs16 : s16 801 = upd (upd (upd (upd (upd (upd (upd S (113 + 6 * (sn S 1)) (nI (numK T tn (nxK T tn tk)))) (113 + 6 * (sn S 1) + 1) (-1)) (113 + 6 * (sn S 1) + 2) (-1)) (113 + 6 * (sn S 1) + 3) (nI (numK T tn (nxK T tn (nxK T tn tk))))) (113 + 6 * (sn S 1) + 4) 0) (113 + 6 * (sn S 1) + 5) 0) 11 (S 11 + nI (numK T tn (nxK T tn (nxK T tn tk)))) := by rw [es16, mu_row, hSs15]
        refine g_pure 4 (i' := 66) (lv' := [some (vR 800), some (vI (S 1)), some (vI (nI (numK T tn (nxK T tn tk)))), some (vI (nI (numK T tn (nxK T tn (nxK T tn tk)))))]) (st' := [vI 1, vR 801, vI 1, vR 801]) rfl ?_
        refine g_ald rfl (g_A (a := 801) (kd := 1) (n := 2407) rfl (by decide)) (by decide) (show 1 = nI 1 from (show (1 : Int32) = nI 1 from rfl)) (by decide) (show _ = S 1 from ((((((((congrFun hSs16 1)).trans (upd_ne (by omega))).trans (upd_ne (by omega))).trans (upd_ne (by omega))).trans (upd_ne (by omega))).trans (upd_ne (by omega))).trans (upd_ne (by omega))).trans (upd_ne (by omega))) ?_
        refine g_pure 2 (i' := 69) (lv' := [some (vR 800), some (vI (S 1)), some (vI (nI (numK T tn (nxK T tn tk)))), some (vI (nI (numK T tn (nxK T tn (nxK T tn tk)))))]) (st' := [vI (S 1 + 1), vI 1, vR 801]) rfl ?_
        refine gW_eq (lv' := [some (vR 800), some (vI (S 1)), some (vI (nI (numK T tn (nxK T tn tk)))), some (vI (nI (numK T tn (nxK T tn (nxK T tn tk)))))]) (st' := [vI (nI (sn S 1 + 1)), vI 1, vR 801]) rfl (by rw [(show (S 1 + 1) = nI (sn S 1 + 1) from ((g_add (hI.c1) (show (1 : Int32) = nI 1 from rfl))).trans (congrArg nI (by omega)))]) rfl ?_
        refine g_ast rfl (g_A (a := 801) (kd := 1) (n := 2407) rfl (by decide)) (by decide) (show 1 = nI 1 from (show (1 : Int32) = nI 1 from rfl)) (by decide) ?_
        refine g_setv (fun s17 es17 => ?_)
        have hMs17 : MK T tn (nxK T tn (nxK T tn (nxK T tn tk))) s17 := hMs16.eq (by rw [es17, mu_ne (by decide)]) (by rw [es17, mu_ne (by decide)])
        have hEs17 : s17 800 11 = nI (spK T tn (nxK T tn (nxK T tn tk))) := by rw [es17, mu_ne (by decide)]; exact hEs16
        have hGs17 : FRm sg0 s17 := by rw [es17]; exact hGs16.m801 (by omega)
        have hSs17 : s17 801 = upd (upd (upd (upd (upd (upd (upd (upd S (113 + 6 * (sn S 1)) (nI (numK T tn (nxK T tn tk)))) (113 + 6 * (sn S 1) + 1) (-1)) (113 + 6 * (sn S 1) + 2) (-1)) (113 + 6 * (sn S 1) + 3) (nI (numK T tn (nxK T tn (nxK T tn tk))))) (113 + 6 * (sn S 1) + 4) 0) (113 + 6 * (sn S 1) + 5) 0) 11 (S 11 + nI (numK T tn (nxK T tn (nxK T tn tk))))) 1 (nI (sn S 1 + 1)) := by rw [es17, mu_row, hSs16]
        refine g_pure 1 (i' := 71) (lv' := [some (vR 800), some (vI (S 1)), some (vI (nI (numK T tn (nxK T tn tk)))), some (vI (nI (numK T tn (nxK T tn (nxK T tn tk)))))]) (st' := [vI 1]) rfl ?_
        refine g_bret rfl g_nar1 ?_
        exact o1 h1 h2 s3 es3 h6 s7 es7 s10 es10 s11 es11 s12 es12 s13 es13 s14 es14 s15 es15 s16 es16 s17 es17 hMs17 hGs17 hEs17 hSs17
      · refine gW_eq (st' := [vI 9999, vI (nI 0), vR 800]) rfl (by rw [(show (0 : Int32) = nI 0 from rfl)]) rfl ?_
        refine g_cV1E rfl (args := [vR 800, vI (nI 0), vI 9999]) (rest := []) rfl rfl rfl (s_196b (m := 10000) (d := d + 1) hMs3 (by omega) (by omega) (show (9999 : Int32) = nI 10000 - 1 from by decide) (by assumption)) (fun s18 es18 => ?_)
        have hSs18 : s18 801 = S := (es18.1.1 801 (by decide)).trans hSs3
        have hEs18 := es18.2
        have hGs18 := hGs3.mf es18.1
        refine g_pure 2 (i' := 21) (lv' := [some (vR 800), some (vI (S 1)), some (vI (nI (numK T tn (nxK T tn tk)))), some (vI (-1))]) (st' := [vI (-1)]) rfl ?_
        refine g_if1 (i' := 24) (P := 0 ≤ ((-1) : Int32)) rfl rfl Iff.rfl (fun h19 => absurd h19 (by decide)) (fun _ => ?_)
        refine g_pure 1 (i' := 23) (lv' := [some (vR 800), some (vI (S 1)), some (vI (nI (numK T tn (nxK T tn tk)))), some (vI (-1))]) (st' := [vI 0]) rfl ?_
        refine g_bret rfl g_nar0 ?_
        exact o2 h1 h2 s3 es3 h6 s18 es18 hGs18 hEs18 hSs18
    · refine g_cV1E rfl (args := [vR 800]) (rest := []) rfl rfl rfl (s_204b (d := d) hM (((congrFun hS 0)).trans (hI.c0)) (by omega) (by assumption)) (fun s20 es20 => ?_)
      have hSs20 : s20 801 = S := (es20.1.1 801 (by decide)).trans hS
      have hEs20 := es20.2
      have hGs20 := hG.mf es20.1
      refine g_pure 2 (i' := 12) (lv' := [some (vR 800), some (vI (S 1)), some (vI (-1)), none]) (st' := [vI (-1)]) rfl ?_
      refine g_if1 (i' := 15) (P := 0 ≤ ((-1) : Int32)) rfl rfl Iff.rfl (fun h21 => absurd h21 (by decide)) (fun _ => ?_)
      refine g_pure 4 (i' := 21) (lv' := [some (vR 800), some (vI (S 1)), some (vI (-1)), some (vI (-1))]) (st' := [vI (-1)]) rfl ?_
      refine g_if1 (i' := 24) (P := 0 ≤ ((-1) : Int32)) rfl rfl Iff.rfl (fun h22 => absurd h22 (by decide)) (fun _ => ?_)
      refine g_pure 1 (i' := 23) (lv' := [some (vR 800), some (vI (S 1)), some (vI (-1)), some (vI (-1))]) (st' := [vI 0]) rfl ?_
      refine g_bret rfl g_nar0 ?_
      exact o3 h1 h2 s20 es20 hGs20 hEs20 hSs20
  · have h1 := Classical.not_not.mp h1
    refine g_pure 1 (i' := 7) (lv' := [some (vR 800), some (vI (S 1)), none, none]) (st' := [vI 0]) rfl ?_
    refine g_bret rfl g_nar0 ?_
    exact o4 h1 hM hG hE hS

theorem s_202 {X : Nat × (Nat → Int32)} {d : Nat} {p : Nat → Nat} {sg : Mg} {B : Nat} {S : Nat → Int32} (hI : Inv B S) (hS : sg 801 = S) {T : Nat → Int32} {tn tk : Nat} (hM : MK T tn (nxK T tn tk) sg) (hE : sg 800 11 = nI (spK T tn tk)) : gF X (d + 6) 202 [vR 800] p sg (lnM (prPer T tn tk S) T tn sg p) := by
  have b0 := hI.b0; have b1 := hI.b1; have b2 := hI.b2; have b3 := hI.b3; have b4 := hI.b4; have b5 := hI.b5; have b6 := hI.b6; have b7 := hI.b7; have b8 := hI.b8; have b9 := hI.b9; have b14 := hI.b14
  refine g_in (cd := k_202) (nL := 4) (rc := 13) rfl (g_A (a := 800) (kd := 0) (n := 12) rfl (by decide)) (g_c1 rfl) (b_202_0 hI hS hM hE (FRm.rf sg) ?_ ?_ ?_ ?_)
  · intro h0 h1 s2 e2 h3 s4 e4 s5 e5 s6 e6 s7 e7 s8 e8 s9 e9 s10 e10 s11 e11 s12 e12 cM cG cE cS
    have g0 : sn S 1 < 8 := by omega
    have e : prPer T tn tk S = .inr (nxK T tn (nxK T tn (nxK T tn tk)), (upd (upd (upd (upd (upd (upd (upd (upd S (113 + 6 * (sn S 1)) (nI (numK T tn (nxK T tn tk)))) (113 + 6 * (sn S 1) + 1) (-1)) (113 + 6 * (sn S 1) + 2) (-1)) (113 + 6 * (sn S 1) + 3) (nI (numK T tn (nxK T tn (nxK T tn tk))))) (113 + 6 * (sn S 1) + 4) 0) (113 + 6 * (sn S 1) + 5) 0) 11 (S 11 + nI (numK T tn (nxK T tn (nxK T tn tk))))) 1 (nI (sn S 1 + 1)))) := by simp only [prPer, tkN, g0, h1, h3, sel_T, sel_F, not_true_eq_false, not_false_eq_true, and_true, true_and, and_false, false_and, and_self, ne_eq, dcN_p, upd_upd]
    rw [e]
    exact ⟨_, ⟨cG, cM, cS⟩, rfl⟩
  · intro h0 h1 s2 e2 h3 s4 e4 cG cE cS
    have g0 : sn S 1 < 8 := by omega
    have e : prPer T tn tk S = .inl (spK T tn (nxK T tn (nxK T tn tk))) := by simp only [prPer, tkN, g0, h1, h3, sel_T, sel_F, not_true_eq_false, not_false_eq_true, and_true, true_and, and_false, false_and, and_self, ne_eq, dcN_p, upd_upd]
    rw [e]
    exact ⟨_, ⟨cG, cE⟩, rfl⟩
  · intro h0 h1 s2 e2 cG cE cS
    have g0 : sn S 1 < 8 := by omega
    have e : prPer T tn tk S = .inl (spK T tn (nxK T tn tk)) := by simp only [prPer, tkN, g0, h1, sel_T, sel_F, not_true_eq_false, not_false_eq_true, and_true, true_and, and_false, false_and, and_self, ne_eq, dcN_p, upd_upd]
    rw [e]
    exact ⟨_, ⟨cG, cE⟩, rfl⟩
  · intro h0 cM cG cE cS
    have g0 : ¬ sn S 1 < 8 := by omega
    have e : prPer T tn tk S = .inl (spK T tn tk) := by simp only [prPer, tkN, g0, sel_T, sel_F, not_true_eq_false, not_false_eq_true, and_true, true_and, and_false, false_and, and_self, ne_eq, dcN_p, upd_upd]
    rw [e]
    exact ⟨_, ⟨cG, cE⟩, rfl⟩

theorem b_206_0 {X : Nat × (Nat → Int32)} {d : Nat} {p : Nat → Nat} {sg : Mg} {Q : am_R → Prop} {B : Nat} {S : Nat → Int32} (hI : Inv B S) (hS : sg 801 = S) {T : Nat → Int32} {tn tk : Nat} (hM : MK T tn (nxK T tn tk) sg) (hE : sg 800 11 = nI (spK T tn tk)) {sg0 : Mg} (hG : FRm sg0 sg)
    (o1 : (¬ sn S 2 = 8) → (tkP T tn (nxK T tn tk) 4 0 (sn S 0)) → ∀ s3 : Mg, (MK T tn (nxK T tn (nxK T tn tk)) s3 ∧ NR T tn (nxK T tn tk) sg s3) → (tkP T tn (nxK T tn (nxK T tn tk)) 4 0 (sn S 9)) → ∀ s7 : Mg, (MK T tn (nxK T tn (nxK T tn (nxK T tn tk))) s7 ∧ NR T tn (nxK T tn (nxK T tn tk)) s3 s7) → ∀ s10 : Mg, s10 = mu s7 801 (161 + 2 * (sn S 2)) (nI (numK T tn (nxK T tn tk))) → ∀ s11 : Mg, s11 = mu s10 801 (161 + 2 * (sn S 2) + 1) (nI (numK T tn (nxK T tn (nxK T tn tk)))) → ∀ s12 : Mg, s12 = mu s11 801 2 (nI (sn S 2 + 1)) → MK T tn (nxK T tn (nxK T tn (nxK T tn tk))) s12 → FRm sg0 s12 → s12 800 11 = nI (spK T tn (nxK T tn (nxK T tn tk))) → s12 801 = (upd (upd (upd S (161 + 2 * (sn S 2)) (nI (numK T tn (nxK T tn tk)))) (161 + 2 * (sn S 2) + 1) (nI (numK T tn (nxK T tn (nxK T tn tk))))) 2 (nI (sn S 2 + 1))) → Q (gRv p s12 1))
    (o2 : (¬ sn S 2 = 8) → (tkP T tn (nxK T tn tk) 4 0 (sn S 0)) → ∀ s3 : Mg, (MK T tn (nxK T tn (nxK T tn tk)) s3 ∧ NR T tn (nxK T tn tk) sg s3) → (¬ tkP T tn (nxK T tn (nxK T tn tk)) 4 0 (sn S 9)) → ∀ s13 : Mg, (NR T tn (nxK T tn (nxK T tn tk)) s3 s13) → FRm sg0 s13 → s13 800 11 = nI (spK T tn (nxK T tn (nxK T tn tk))) → s13 801 = S → Q (gRv p s13 0))
    (o3 : (¬ sn S 2 = 8) → (¬ tkP T tn (nxK T tn tk) 4 0 (sn S 0)) → ∀ s15 : Mg, (NR T tn (nxK T tn tk) sg s15) → FRm sg0 s15 → s15 800 11 = nI (spK T tn (nxK T tn tk)) → s15 801 = S → Q (gRv p s15 0))
    (o4 : (sn S 2 = 8) → MK T tn (nxK T tn tk) sg → FRm sg0 sg → sg 800 11 = nI (spK T tn tk) → sg 801 = S → Q (gRv p sg 0)) :
    gW X (d + 5) k_206 0 [some (vR 800), none, none] [] p sg Q := by
  have b0 := hI.b0; have b1 := hI.b1; have b2 := hI.b2; have b3 := hI.b3; have b4 := hI.b4; have b5 := hI.b5; have b6 := hI.b6; have b7 := hI.b7; have b8 := hI.b8; have b9 := hI.b9; have b14 := hI.b14
  refine g_pure 1 (i' := 1) (lv' := [some (vR 800), none, none]) (st' := [vR 800]) rfl ?_
  refine g_cV1 rfl (args := [vR 800]) (rest := []) rfl rfl rfl (s_207 (d := d + 4) hS) ?_
  refine g_pure 1 (i' := 3) (lv' := [some (vR 800), none, none]) (st' := [vI 8, vI (S 2)]) rfl ?_
  refine g_if2 (i' := 6) (P := ¬ sn S 2 = 8) rfl rfl (g_neN (show S 2 = nI (sn S 2) from (hI.c2)) (show 8 = nI 8 from (show (8 : Int32) = nI 8 from rfl)) (by omega) (by omega)) (fun h1 => ?_) (fun h1 => ?_)
  · refine g_pure 1 (i' := 7) (lv' := [some (vR 800), none, none]) (st' := [vR 800]) rfl ?_
    by_cases h2 : tkP T tn (nxK T tn tk) 4 0 (sn S 0)
    · refine g_cV1E rfl (args := [vR 800]) (rest := []) rfl rfl rfl (s_204a (d := d) hM (((congrFun hS 0)).trans (hI.c0)) (by omega) (by assumption)) (fun s3 es3 => ?_)
      have hSs3 : s3 801 = S := (es3.2.1.1 801 (by decide)).trans hS
      have hMs3 := es3.1
      have hEs3 := es3.2.2
      have hGs3 := hG.mf es3.2.1
      have t4 := (show tkP T tn (nxK T tn tk) 4 0 (sn S 0) by assumption).2.2.2
      refine g_pure 2 (i' := 10) (lv' := [some (vR 800), some (vI (nI (numK T tn (nxK T tn tk)))), none]) (st' := [vI (nI (numK T tn (nxK T tn tk)))]) rfl ?_
      refine g_if1 (i' := 13) (P := 0 ≤ numK T tn (nxK T tn tk)) rfl rfl (g_geN (show nI (numK T tn (nxK T tn tk)) = nI (numK T tn (nxK T tn tk)) from (rfl : nI (numK T tn (nxK T tn tk)) = nI (numK T tn (nxK T tn tk)))) (show 0 = nI 0 from (show (0 : Int32) = nI 0 from rfl)) (by omega) (by omega)) (fun _ => ?_) (fun h5 => absurd (by omega) h5)
      refine g_pure 1 (i' := 14) (lv' := [some (vR 800), some (vI (nI (numK T tn (nxK T tn tk)))), none]) (st' := [vR 800]) rfl ?_
      by_cases h6 : tkP T tn (nxK T tn (nxK T tn tk)) 4 0 (sn S 9)
      · refine g_cV1E rfl (args := [vR 800]) (rest := []) rfl rfl rfl (s_200a (d := d) hMs3 (((congrFun hSs3 9)).trans (hI.c9)) (by omega) (by assumption)) (fun s7 es7 => ?_)
        have hSs7 : s7 801 = S := (es7.2.1.1 801 (by decide)).trans hSs3
        have hMs7 := es7.1
        have hEs7 := es7.2.2
        have hGs7 := hGs3.mf es7.2.1
        have t8 := (show tkP T tn (nxK T tn (nxK T tn tk)) 4 0 (sn S 9) by assumption).2.2.2
        refine g_pure 2 (i' := 17) (lv' := [some (vR 800), some (vI (nI (numK T tn (nxK T tn tk)))), some (vI (nI (numK T tn (nxK T tn (nxK T tn tk)))))]) (st' := [vI (nI (numK T tn (nxK T tn (nxK T tn tk))))]) rfl ?_
        refine g_if1 (i' := 20) (P := 0 ≤ numK T tn (nxK T tn (nxK T tn tk))) rfl rfl (g_geN (show nI (numK T tn (nxK T tn (nxK T tn tk))) = nI (numK T tn (nxK T tn (nxK T tn tk))) from (rfl : nI (numK T tn (nxK T tn (nxK T tn tk))) = nI (numK T tn (nxK T tn (nxK T tn tk))))) (show 0 = nI 0 from (show (0 : Int32) = nI 0 from rfl)) (by omega) (by omega)) (fun _ => ?_) (fun h9 => absurd (by omega) h9)
        refine g_pure 5 (i' := 25) (lv' := [some (vR 800), some (vI (nI (numK T tn (nxK T tn tk)))), some (vI (nI (numK T tn (nxK T tn (nxK T tn tk)))))]) (st' := [vR 800, vI 2, vI 161, vR 801]) rfl ?_
        refine g_cV1 rfl (args := [vR 800]) (rest := [vI 2, vI 161, vR 801]) rfl rfl rfl (s_207 (d := d + 4) hSs7) ?_
        refine g_pure 3 (i' := 29) (lv' := [some (vR 800), some (vI (nI (numK T tn (nxK T tn tk)))), some (vI (nI (numK T tn (nxK T tn (nxK T tn tk)))))]) (st' := [vI (nI (numK T tn (nxK T tn tk))), vI (161 + (2 * S 2)), vR 801]) rfl ?_
        refine gW_eq (lv' := [some (vR 800), some (vI (nI (numK T tn (nxK T tn tk)))), some (vI (nI (numK T tn (nxK T tn (nxK T tn tk)))))]) (st' := [vI (nI (numK T tn (nxK T tn tk))), vI (nI (161 + 2 * (sn S 2))), vR 801]) rfl (by rw [(show (161 + (2 * S 2)) = nI (161 + 2 * (sn S 2)) from ((g_add (show (161 : Int32) = nI 161 from rfl) (g_mul (show (2 : Int32) = nI 2 from rfl) (hI.c2)))).trans (congrArg nI (by omega)))]) rfl ?_
        refine g_ast rfl (g_A (a := 801) (kd := 1) (n := 2407) rfl (by decide)) (by decide) (show nI (161 + 2 * (sn S 2)) = nI (161 + 2 * (sn S 2)) from (rfl : nI (161 + 2 * (sn S 2)) = nI (161 + 2 * (sn S 2)))) (by omega) ?_
        refine g_setv (fun s10 es10 => ?_)
        have hMs10 : MK T tn (nxK T tn (nxK T tn (nxK T tn tk))) s10 := hMs7.eq (by rw [es10, mu_ne (by decide)]) (by rw [es10, mu_ne (by decide)])
        have hEs10 : s10 800 11 = nI (spK T tn (nxK T tn (nxK T tn tk))) := by rw [es10, mu_ne (by decide)]; exact hEs7
        have hGs10 : FRm sg0 s10 := by rw [es10]; exact hGs7.m801 (by omega)
        have hSs10 : s10 801 = upd S (161 + 2 * (sn S 2)) (nI (numK T tn (nxK T tn tk))) := by rw [es10, mu_row, hSs7]
        refine g_pure 5 (i' := 35) (lv' := [some (vR 800), some (vI (nI (numK T tn (nxK T tn tk)))), some (vI (nI (numK T tn (nxK T tn (nxK T tn tk)))))]) (st' := [vR 800, vI 2, vI 161, vR 801]) rfl ?_
        refine g_cV1 rfl (args := [vR 800]) (rest := [vI 2, vI 161, vR 801]) rfl rfl rfl (s_207 (d := d + 4) hSs10) ?_
        refine gW_eq (st' := [vI (S 2), vI 2, vI 161, vR 801]) rfl (by rw [show (upd S (161 + 2 * (sn S 2)) (nI (numK T tn (nxK T tn tk)))) 2 = S 2 from (show (upd S (161 + 2 * (sn S 2)) (nI (numK T tn (nxK T tn tk)))) 2 = S 2 from (rfl).trans (upd_ne (by omega)))]) rfl ?_
        refine g_pure 5 (i' := 41) (lv' := [some (vR 800), some (vI (nI (numK T tn (nxK T tn tk)))), some (vI (nI (numK T tn (nxK T tn (nxK T tn tk)))))]) (st' := [vI (nI (numK T tn (nxK T tn (nxK T tn tk)))), vI ((161 + (2 * S 2)) + 1), vR 801]) rfl ?_
        refine gW_eq (lv' := [some (vR 800), some (vI (nI (numK T tn (nxK T tn tk)))), some (vI (nI (numK T tn (nxK T tn (nxK T tn tk)))))]) (st' := [vI (nI (numK T tn (nxK T tn (nxK T tn tk)))), vI (nI (161 + 2 * (sn S 2) + 1)), vR 801]) rfl (by rw [(show ((161 + (2 * S 2)) + 1) = nI (161 + 2 * (sn S 2) + 1) from ((g_add (g_add (show (161 : Int32) = nI 161 from rfl) (g_mul (show (2 : Int32) = nI 2 from rfl) (hI.c2))) (show (1 : Int32) = nI 1 from rfl))).trans (congrArg nI (by omega)))]) rfl ?_
        refine g_ast rfl (g_A (a := 801) (kd := 1) (n := 2407) rfl (by decide)) (by decide) (show nI (161 + 2 * (sn S 2) + 1) = nI (161 + 2 * (sn S 2) + 1) from (rfl : nI (161 + 2 * (sn S 2) + 1) = nI (161 + 2 * (sn S 2) + 1))) (by omega) ?_
        refine g_setv (fun s11 es11 => ?_)
        have hMs11 : MK T tn (nxK T tn (nxK T tn (nxK T tn tk))) s11 := hMs10.eq (by rw [es11, mu_ne (by decide)]) (by rw [es11, mu_ne (by decide)])
        have hEs11 : s11 800 11 = nI (spK T tn (nxK T tn (nxK T tn tk))) := by rw [es11, mu_ne (by decide)]; exact hEs10
        have hGs11 : FRm sg0 s11 := by rw [es11]; exact hGs10.m801 (by omega)
        have hSs11 : s11 801 = upd (upd S (161 + 2 * (sn S 2)) (nI (numK T tn (nxK T tn tk)))) (161 + 2 * (sn S 2) + 1) (nI (numK T tn (nxK T tn (nxK T tn tk)))) := by rw [es11, mu_row, hSs10]
        refine g_pure 4 (i' := 46) (lv' := [some (vR 800), some (vI (nI (numK T tn (nxK T tn tk)))), some (vI (nI (numK T tn (nxK T tn (nxK T tn tk)))))]) (st' := [vI 2, vR 801, vI 2, vR 801]) rfl ?_
        refine g_ald rfl (g_A (a := 801) (kd := 1) (n := 2407) rfl (by decide)) (by decide) (show 2 = nI 2 from (show (2 : Int32) = nI 2 from rfl)) (by decide) (show _ = S 2 from (((congrFun hSs11 2)).trans (upd_ne (by omega))).trans (upd_ne (by omega))) ?_
        refine g_pure 2 (i' := 49) (lv' := [some (vR 800), some (vI (nI (numK T tn (nxK T tn tk)))), some (vI (nI (numK T tn (nxK T tn (nxK T tn tk)))))]) (st' := [vI (S 2 + 1), vI 2, vR 801]) rfl ?_
        refine gW_eq (lv' := [some (vR 800), some (vI (nI (numK T tn (nxK T tn tk)))), some (vI (nI (numK T tn (nxK T tn (nxK T tn tk)))))]) (st' := [vI (nI (sn S 2 + 1)), vI 2, vR 801]) rfl (by rw [(show (S 2 + 1) = nI (sn S 2 + 1) from ((g_add (hI.c2) (show (1 : Int32) = nI 1 from rfl))).trans (congrArg nI (by omega)))]) rfl ?_
        refine g_ast rfl (g_A (a := 801) (kd := 1) (n := 2407) rfl (by decide)) (by decide) (show 2 = nI 2 from (show (2 : Int32) = nI 2 from rfl)) (by decide) ?_
        refine g_setv (fun s12 es12 => ?_)
        have hMs12 : MK T tn (nxK T tn (nxK T tn (nxK T tn tk))) s12 := hMs11.eq (by rw [es12, mu_ne (by decide)]) (by rw [es12, mu_ne (by decide)])
        have hEs12 : s12 800 11 = nI (spK T tn (nxK T tn (nxK T tn tk))) := by rw [es12, mu_ne (by decide)]; exact hEs11
        have hGs12 : FRm sg0 s12 := by rw [es12]; exact hGs11.m801 (by omega)
        have hSs12 : s12 801 = upd (upd (upd S (161 + 2 * (sn S 2)) (nI (numK T tn (nxK T tn tk)))) (161 + 2 * (sn S 2) + 1) (nI (numK T tn (nxK T tn (nxK T tn tk))))) 2 (nI (sn S 2 + 1)) := by rw [es12, mu_row, hSs11]
        refine g_pure 1 (i' := 51) (lv' := [some (vR 800), some (vI (nI (numK T tn (nxK T tn tk)))), some (vI (nI (numK T tn (nxK T tn (nxK T tn tk)))))]) (st' := [vI 1]) rfl ?_
        refine g_bret rfl g_nar1 ?_
        exact o1 h1 h2 s3 es3 h6 s7 es7 s10 es10 s11 es11 s12 es12 hMs12 hGs12 hEs12 hSs12
      · refine g_cV1E rfl (args := [vR 800]) (rest := []) rfl rfl rfl (s_200b (d := d) hMs3 (((congrFun hSs3 9)).trans (hI.c9)) (by omega) (by assumption)) (fun s13 es13 => ?_)
        have hSs13 : s13 801 = S := (es13.1.1 801 (by decide)).trans hSs3
        have hEs13 := es13.2
        have hGs13 := hGs3.mf es13.1
        refine g_pure 2 (i' := 17) (lv' := [some (vR 800), some (vI (nI (numK T tn (nxK T tn tk)))), some (vI (-1))]) (st' := [vI (-1)]) rfl ?_
        refine g_if1 (i' := 20) (P := 0 ≤ ((-1) : Int32)) rfl rfl Iff.rfl (fun h14 => absurd h14 (by decide)) (fun _ => ?_)
        refine g_pure 1 (i' := 19) (lv' := [some (vR 800), some (vI (nI (numK T tn (nxK T tn tk)))), some (vI (-1))]) (st' := [vI 0]) rfl ?_
        refine g_bret rfl g_nar0 ?_
        exact o2 h1 h2 s3 es3 h6 s13 es13 hGs13 hEs13 hSs13
    · refine g_cV1E rfl (args := [vR 800]) (rest := []) rfl rfl rfl (s_204b (d := d) hM (((congrFun hS 0)).trans (hI.c0)) (by omega) (by assumption)) (fun s15 es15 => ?_)
      have hSs15 : s15 801 = S := (es15.1.1 801 (by decide)).trans hS
      have hEs15 := es15.2
      have hGs15 := hG.mf es15.1
      refine g_pure 2 (i' := 10) (lv' := [some (vR 800), some (vI (-1)), none]) (st' := [vI (-1)]) rfl ?_
      refine g_if1 (i' := 13) (P := 0 ≤ ((-1) : Int32)) rfl rfl Iff.rfl (fun h16 => absurd h16 (by decide)) (fun _ => ?_)
      refine g_pure 4 (i' := 17) (lv' := [some (vR 800), some (vI (-1)), some (vI (-1))]) (st' := [vI (-1)]) rfl ?_
      refine g_if1 (i' := 20) (P := 0 ≤ ((-1) : Int32)) rfl rfl Iff.rfl (fun h17 => absurd h17 (by decide)) (fun _ => ?_)
      refine g_pure 1 (i' := 19) (lv' := [some (vR 800), some (vI (-1)), some (vI (-1))]) (st' := [vI 0]) rfl ?_
      refine g_bret rfl g_nar0 ?_
      exact o3 h1 h2 s15 es15 hGs15 hEs15 hSs15
  · have h1 := Classical.not_not.mp h1
    refine g_pure 1 (i' := 5) (lv' := [some (vR 800), none, none]) (st' := [vI 0]) rfl ?_
    refine g_bret rfl g_nar0 ?_
    exact o4 h1 hM hG hE hS

theorem s_206 {X : Nat × (Nat → Int32)} {d : Nat} {p : Nat → Nat} {sg : Mg} {B : Nat} {S : Nat → Int32} (hI : Inv B S) (hS : sg 801 = S) {T : Nat → Int32} {tn tk : Nat} (hM : MK T tn (nxK T tn tk) sg) (hE : sg 800 11 = nI (spK T tn tk)) : gF X (d + 6) 206 [vR 800] p sg (lnM (prFac T tn tk S) T tn sg p) := by
  have b0 := hI.b0; have b1 := hI.b1; have b2 := hI.b2; have b3 := hI.b3; have b4 := hI.b4; have b5 := hI.b5; have b6 := hI.b6; have b7 := hI.b7; have b8 := hI.b8; have b9 := hI.b9; have b14 := hI.b14
  refine g_in (cd := k_206) (nL := 3) (rc := 13) rfl (g_A (a := 800) (kd := 0) (n := 12) rfl (by decide)) (g_c1 rfl) (b_206_0 hI hS hM hE (FRm.rf sg) ?_ ?_ ?_ ?_)
  · intro h0 h1 s2 e2 h3 s4 e4 s5 e5 s6 e6 s7 e7 cM cG cE cS
    have g0 : sn S 2 < 8 := by omega
    have e : prFac T tn tk S = .inr (nxK T tn (nxK T tn (nxK T tn tk)), (upd (upd (upd S (161 + 2 * (sn S 2)) (nI (numK T tn (nxK T tn tk)))) (161 + 2 * (sn S 2) + 1) (nI (numK T tn (nxK T tn (nxK T tn tk))))) 2 (nI (sn S 2 + 1)))) := by simp only [prFac, tkN, g0, h1, h3, sel_T, sel_F, not_true_eq_false, not_false_eq_true, and_true, true_and, and_false, false_and, and_self, ne_eq, dcN_p, upd_upd]
    rw [e]
    exact ⟨_, ⟨cG, cM, cS⟩, rfl⟩
  · intro h0 h1 s2 e2 h3 s4 e4 cG cE cS
    have g0 : sn S 2 < 8 := by omega
    have e : prFac T tn tk S = .inl (spK T tn (nxK T tn (nxK T tn tk))) := by simp only [prFac, tkN, g0, h1, h3, sel_T, sel_F, not_true_eq_false, not_false_eq_true, and_true, true_and, and_false, false_and, and_self, ne_eq, dcN_p, upd_upd]
    rw [e]
    exact ⟨_, ⟨cG, cE⟩, rfl⟩
  · intro h0 h1 s2 e2 cG cE cS
    have g0 : sn S 2 < 8 := by omega
    have e : prFac T tn tk S = .inl (spK T tn (nxK T tn tk)) := by simp only [prFac, tkN, g0, h1, sel_T, sel_F, not_true_eq_false, not_false_eq_true, and_true, true_and, and_false, false_and, and_self, ne_eq, dcN_p, upd_upd]
    rw [e]
    exact ⟨_, ⟨cG, cE⟩, rfl⟩
  · intro h0 cM cG cE cS
    have g0 : ¬ sn S 2 < 8 := by omega
    have e : prFac T tn tk S = .inl (spK T tn tk) := by simp only [prFac, tkN, g0, sel_T, sel_F, not_true_eq_false, not_false_eq_true, and_true, true_and, and_false, false_and, and_self, ne_eq, dcN_p, upd_upd]
    rw [e]
    exact ⟨_, ⟨cG, cE⟩, rfl⟩

theorem b_208_0 {X : Nat × (Nat → Int32)} {d : Nat} {p : Nat → Nat} {sg : Mg} {Q : am_R → Prop} {B : Nat} {S : Nat → Int32} (hI : Inv B S) (hS : sg 801 = S) {T : Nat → Int32} {tn tk : Nat} (hM : MK T tn (nxK T tn tk) sg) (hE : sg 800 11 = nI (spK T tn tk)) {sg0 : Mg} (hG : FRm sg0 sg)
    (o1 : (¬ sn S 3 = 12) → (tkP T tn (nxK T tn tk) 4 0 (sn S 0)) → ∀ s3 : Mg, (MK T tn (nxK T tn (nxK T tn tk)) s3 ∧ NR T tn (nxK T tn tk) sg s3) → (tkP T tn (nxK T tn (nxK T tn tk)) 4 0 (sn S 0)) → ∀ s7 : Mg, (MK T tn (nxK T tn (nxK T tn (nxK T tn tk))) s7 ∧ NR T tn (nxK T tn (nxK T tn tk)) s3 s7) → (¬ numK T tn (nxK T tn tk) = numK T tn (nxK T tn (nxK T tn tk))) → (tkP T tn (nxK T tn (nxK T tn (nxK T tn tk))) 4 1 6) → ∀ s12 : Mg, (MK T tn (nxK T tn (nxK T tn (nxK T tn (nxK T tn tk)))) s12 ∧ NR T tn (nxK T tn (nxK T tn (nxK T tn tk))) s7 s12) → ∀ s15 : Mg, s15 = mu s12 801 (177 + 3 * (sn S 3)) (nI (numK T tn (nxK T tn tk))) → ∀ s16 : Mg, s16 = mu s15 801 (177 + 3 * (sn S 3) + 1) (nI (numK T tn (nxK T tn (nxK T tn tk)))) → ∀ s17 : Mg, s17 = mu s16 801 (177 + 3 * (sn S 3) + 2) (nI (numK T tn (nxK T tn (nxK T tn (nxK T tn tk))))) → ∀ s18 : Mg, s18 = mu s17 801 3 (nI (sn S 3 + 1)) → MK T tn (nxK T tn (nxK T tn (nxK T tn (nxK T tn tk)))) s18 → FRm sg0 s18 → s18 800 11 = nI (spK T tn (nxK T tn (nxK T tn (nxK T tn tk)))) → s18 801 = (upd (upd (upd (upd S (177 + 3 * (sn S 3)) (nI (numK T tn (nxK T tn tk)))) (177 + 3 * (sn S 3) + 1) (nI (numK T tn (nxK T tn (nxK T tn tk))))) (177 + 3 * (sn S 3) + 2) (nI (numK T tn (nxK T tn (nxK T tn (nxK T tn tk)))))) 3 (nI (sn S 3 + 1))) → Q (gRv p s18 1))
    (o2 : (¬ sn S 3 = 12) → (tkP T tn (nxK T tn tk) 4 0 (sn S 0)) → ∀ s3 : Mg, (MK T tn (nxK T tn (nxK T tn tk)) s3 ∧ NR T tn (nxK T tn tk) sg s3) → (tkP T tn (nxK T tn (nxK T tn tk)) 4 0 (sn S 0)) → ∀ s7 : Mg, (MK T tn (nxK T tn (nxK T tn (nxK T tn tk))) s7 ∧ NR T tn (nxK T tn (nxK T tn tk)) s3 s7) → (¬ numK T tn (nxK T tn tk) = numK T tn (nxK T tn (nxK T tn tk))) → (¬ tkP T tn (nxK T tn (nxK T tn (nxK T tn tk))) 4 1 6) → ∀ s19 : Mg, (NR T tn (nxK T tn (nxK T tn (nxK T tn tk))) s7 s19) → FRm sg0 s19 → s19 800 11 = nI (spK T tn (nxK T tn (nxK T tn (nxK T tn tk)))) → s19 801 = S → Q (gRv p s19 0))
    (o3 : (¬ sn S 3 = 12) → (tkP T tn (nxK T tn tk) 4 0 (sn S 0)) → ∀ s3 : Mg, (MK T tn (nxK T tn (nxK T tn tk)) s3 ∧ NR T tn (nxK T tn tk) sg s3) → (tkP T tn (nxK T tn (nxK T tn tk)) 4 0 (sn S 0)) → ∀ s7 : Mg, (MK T tn (nxK T tn (nxK T tn (nxK T tn tk))) s7 ∧ NR T tn (nxK T tn (nxK T tn tk)) s3 s7) → (numK T tn (nxK T tn tk) = numK T tn (nxK T tn (nxK T tn tk))) → MK T tn (nxK T tn (nxK T tn (nxK T tn tk))) s7 → FRm sg0 s7 → s7 800 11 = nI (spK T tn (nxK T tn (nxK T tn tk))) → s7 801 = S → Q (gRv p s7 0))
    (o4 : (¬ sn S 3 = 12) → (tkP T tn (nxK T tn tk) 4 0 (sn S 0)) → ∀ s3 : Mg, (MK T tn (nxK T tn (nxK T tn tk)) s3 ∧ NR T tn (nxK T tn tk) sg s3) → (¬ tkP T tn (nxK T tn (nxK T tn tk)) 4 0 (sn S 0)) → ∀ s21 : Mg, (NR T tn (nxK T tn (nxK T tn tk)) s3 s21) → FRm sg0 s21 → s21 800 11 = nI (spK T tn (nxK T tn (nxK T tn tk))) → s21 801 = S → Q (gRv p s21 0))
    (o5 : (¬ sn S 3 = 12) → (¬ tkP T tn (nxK T tn tk) 4 0 (sn S 0)) → ∀ s23 : Mg, (NR T tn (nxK T tn tk) sg s23) → FRm sg0 s23 → s23 800 11 = nI (spK T tn (nxK T tn tk)) → s23 801 = S → Q (gRv p s23 0))
    (o6 : (sn S 3 = 12) → MK T tn (nxK T tn tk) sg → FRm sg0 sg → sg 800 11 = nI (spK T tn tk) → sg 801 = S → Q (gRv p sg 0)) :
    gW X (d + 5) k_208 0 [some (vR 800), none, none, none, none] [] p sg Q := by
  have b0 := hI.b0; have b1 := hI.b1; have b2 := hI.b2; have b3 := hI.b3; have b4 := hI.b4; have b5 := hI.b5; have b6 := hI.b6; have b7 := hI.b7; have b8 := hI.b8; have b9 := hI.b9; have b14 := hI.b14
  refine g_pure 1 (i' := 1) (lv' := [some (vR 800), none, none, none, none]) (st' := [vR 800]) rfl ?_
  refine g_cV1 rfl (args := [vR 800]) (rest := []) rfl rfl rfl (s_209 (d := d + 4) hS) ?_
  refine g_pure 3 (i' := 5) (lv' := [some (vR 800), some (vI (S 3)), none, none, none]) (st' := [vI 12, vI (S 3)]) rfl ?_
  refine g_if2 (i' := 8) (P := ¬ sn S 3 = 12) rfl rfl (g_neN (show S 3 = nI (sn S 3) from (hI.c3)) (show 12 = nI 12 from (show (12 : Int32) = nI 12 from rfl)) (by omega) (by omega)) (fun h1 => ?_) (fun h1 => ?_)
  · refine g_pure 1 (i' := 9) (lv' := [some (vR 800), some (vI (S 3)), none, none, none]) (st' := [vR 800]) rfl ?_
    by_cases h2 : tkP T tn (nxK T tn tk) 4 0 (sn S 0)
    · refine g_cV1E rfl (args := [vR 800]) (rest := []) rfl rfl rfl (s_204a (d := d) hM (((congrFun hS 0)).trans (hI.c0)) (by omega) (by assumption)) (fun s3 es3 => ?_)
      have hSs3 : s3 801 = S := (es3.2.1.1 801 (by decide)).trans hS
      have hMs3 := es3.1
      have hEs3 := es3.2.2
      have hGs3 := hG.mf es3.2.1
      have t4 := (show tkP T tn (nxK T tn tk) 4 0 (sn S 0) by assumption).2.2.2
      refine g_pure 2 (i' := 12) (lv' := [some (vR 800), some (vI (S 3)), some (vI (nI (numK T tn (nxK T tn tk)))), none, none]) (st' := [vI (nI (numK T tn (nxK T tn tk)))]) rfl ?_
      refine g_if1 (i' := 15) (P := 0 ≤ numK T tn (nxK T tn tk)) rfl rfl (g_geN (show nI (numK T tn (nxK T tn tk)) = nI (numK T tn (nxK T tn tk)) from (rfl : nI (numK T tn (nxK T tn tk)) = nI (numK T tn (nxK T tn tk)))) (show 0 = nI 0 from (show (0 : Int32) = nI 0 from rfl)) (by omega) (by omega)) (fun _ => ?_) (fun h5 => absurd (by omega) h5)
      refine g_pure 1 (i' := 16) (lv' := [some (vR 800), some (vI (S 3)), some (vI (nI (numK T tn (nxK T tn tk)))), none, none]) (st' := [vR 800]) rfl ?_
      by_cases h6 : tkP T tn (nxK T tn (nxK T tn tk)) 4 0 (sn S 0)
      · refine g_cV1E rfl (args := [vR 800]) (rest := []) rfl rfl rfl (s_204a (d := d) hMs3 (((congrFun hSs3 0)).trans (hI.c0)) (by omega) (by assumption)) (fun s7 es7 => ?_)
        have hSs7 : s7 801 = S := (es7.2.1.1 801 (by decide)).trans hSs3
        have hMs7 := es7.1
        have hEs7 := es7.2.2
        have hGs7 := hGs3.mf es7.2.1
        have t8 := (show tkP T tn (nxK T tn (nxK T tn tk)) 4 0 (sn S 0) by assumption).2.2.2
        refine g_pure 2 (i' := 19) (lv' := [some (vR 800), some (vI (S 3)), some (vI (nI (numK T tn (nxK T tn tk)))), some (vI (nI (numK T tn (nxK T tn (nxK T tn tk))))), none]) (st' := [vI (nI (numK T tn (nxK T tn (nxK T tn tk))))]) rfl ?_
        refine g_if1 (i' := 23) (P := numK T tn (nxK T tn (nxK T tn tk)) < 0) rfl rfl (g_ltN (show nI (numK T tn (nxK T tn (nxK T tn tk))) = nI (numK T tn (nxK T tn (nxK T tn tk))) from (rfl : nI (numK T tn (nxK T tn (nxK T tn tk))) = nI (numK T tn (nxK T tn (nxK T tn tk))))) (show 0 = nI 0 from (show (0 : Int32) = nI 0 from rfl)) (by omega) (by omega)) (fun h9 => absurd h9 (by omega)) (fun _ => ?_)
        refine g_pure 2 (i' := 22) (lv' := [some (vR 800), some (vI (S 3)), some (vI (nI (numK T tn (nxK T tn tk)))), some (vI (nI (numK T tn (nxK T tn (nxK T tn tk))))), none]) (st' := [vI (nI (numK T tn (nxK T tn (nxK T tn tk)))), vI (nI (numK T tn (nxK T tn tk)))]) rfl ?_
        refine g_if2 (i' := 25) (P := ¬ numK T tn (nxK T tn tk) = numK T tn (nxK T tn (nxK T tn tk))) rfl rfl (g_neN (show nI (numK T tn (nxK T tn tk)) = nI (numK T tn (nxK T tn tk)) from (rfl : nI (numK T tn (nxK T tn tk)) = nI (numK T tn (nxK T tn tk)))) (show nI (numK T tn (nxK T tn (nxK T tn tk))) = nI (numK T tn (nxK T tn (nxK T tn tk))) from (rfl : nI (numK T tn (nxK T tn (nxK T tn tk))) = nI (numK T tn (nxK T tn (nxK T tn tk))))) (by omega) (by omega)) (fun h10 => ?_) (fun h10 => ?_)
        · refine g_pure 3 (i' := 28) (lv' := [some (vR 800), some (vI (S 3)), some (vI (nI (numK T tn (nxK T tn tk)))), some (vI (nI (numK T tn (nxK T tn (nxK T tn tk))))), none]) (st' := [vI 5, vI 1, vR 800]) rfl ?_
          by_cases h11 : tkP T tn (nxK T tn (nxK T tn (nxK T tn tk))) 4 1 6
          · refine gW_eq (st' := [vI 5, vI (nI 1), vR 800]) rfl (by rw [(show (1 : Int32) = nI 1 from rfl)]) rfl ?_
            refine g_cV1E rfl (args := [vR 800, vI (nI 1), vI 5]) (rest := []) rfl rfl rfl (s_196a (m := 6) (d := d + 1) hMs7 (by omega) (by omega) (show (5 : Int32) = nI 6 - 1 from by decide) (by assumption)) (fun s12 es12 => ?_)
            have hSs12 : s12 801 = S := (es12.2.1.1 801 (by decide)).trans hSs7
            have hMs12 := es12.1
            have hEs12 := es12.2.2
            have hGs12 := hGs7.mf es12.2.1
            have t13 := (show tkP T tn (nxK T tn (nxK T tn (nxK T tn tk))) 4 1 6 by assumption).2.2
            refine g_pure 2 (i' := 31) (lv' := [some (vR 800), some (vI (S 3)), some (vI (nI (numK T tn (nxK T tn tk)))), some (vI (nI (numK T tn (nxK T tn (nxK T tn tk))))), some (vI (nI (numK T tn (nxK T tn (nxK T tn (nxK T tn tk))))))]) (st' := [vI (nI (numK T tn (nxK T tn (nxK T tn (nxK T tn tk)))))]) rfl ?_
            refine g_if1 (i' := 34) (P := 0 ≤ numK T tn (nxK T tn (nxK T tn (nxK T tn tk)))) rfl rfl (g_geN (show nI (numK T tn (nxK T tn (nxK T tn (nxK T tn tk)))) = nI (numK T tn (nxK T tn (nxK T tn (nxK T tn tk)))) from (rfl : nI (numK T tn (nxK T tn (nxK T tn (nxK T tn tk)))) = nI (numK T tn (nxK T tn (nxK T tn (nxK T tn tk)))))) (show 0 = nI 0 from (show (0 : Int32) = nI 0 from rfl)) (by omega) (by omega)) (fun _ => ?_) (fun h14 => absurd (by omega) h14)
            refine g_pure 8 (i' := 42) (lv' := [some (vR 800), some (vI (S 3)), some (vI (nI (numK T tn (nxK T tn tk)))), some (vI (nI (numK T tn (nxK T tn (nxK T tn tk))))), some (vI (nI (numK T tn (nxK T tn (nxK T tn (nxK T tn tk))))))]) (st' := [vI (nI (numK T tn (nxK T tn tk))), vI (177 + (3 * S 3)), vR 801]) rfl ?_
            refine gW_eq (lv' := [some (vR 800), some (vI (S 3)), some (vI (nI (numK T tn (nxK T tn tk)))), some (vI (nI (numK T tn (nxK T tn (nxK T tn tk))))), some (vI (nI (numK T tn (nxK T tn (nxK T tn (nxK T tn tk))))))]) (st' := [vI (nI (numK T tn (nxK T tn tk))), vI (nI (177 + 3 * (sn S 3))), vR 801]) rfl (by rw [(show (177 + (3 * S 3)) = nI (177 + 3 * (sn S 3)) from ((g_add (show (177 : Int32) = nI 177 from rfl) (g_mul (show (3 : Int32) = nI 3 from rfl) (hI.c3)))).trans (congrArg nI (by omega)))]) rfl ?_
            refine g_ast rfl (g_A (a := 801) (kd := 1) (n := 2407) rfl (by decide)) (by decide) (show nI (177 + 3 * (sn S 3)) = nI (177 + 3 * (sn S 3)) from (rfl : nI (177 + 3 * (sn S 3)) = nI (177 + 3 * (sn S 3)))) (by omega) ?_
            refine g_setv (fun s15 es15 => ?_)
            have hMs15 : MK T tn (nxK T tn (nxK T tn (nxK T tn (nxK T tn tk)))) s15 := hMs12.eq (by rw [es15, mu_ne (by decide)]) (by rw [es15, mu_ne (by decide)])
            have hEs15 : s15 800 11 = nI (spK T tn (nxK T tn (nxK T tn (nxK T tn tk)))) := by rw [es15, mu_ne (by decide)]; exact hEs12
            have hGs15 : FRm sg0 s15 := by rw [es15]; exact hGs12.m801 (by omega)
            have hSs15 : s15 801 = upd S (177 + 3 * (sn S 3)) (nI (numK T tn (nxK T tn tk))) := by rw [es15, mu_row, hSs12]
            refine g_pure 10 (i' := 53) (lv' := [some (vR 800), some (vI (S 3)), some (vI (nI (numK T tn (nxK T tn tk)))), some (vI (nI (numK T tn (nxK T tn (nxK T tn tk))))), some (vI (nI (numK T tn (nxK T tn (nxK T tn (nxK T tn tk))))))]) (st' := [vI (nI (numK T tn (nxK T tn (nxK T tn tk)))), vI ((177 + (3 * S 3)) + 1), vR 801]) rfl ?_
            refine gW_eq (lv' := [some (vR 800), some (vI (S 3)), some (vI (nI (numK T tn (nxK T tn tk)))), some (vI (nI (numK T tn (nxK T tn (nxK T tn tk))))), some (vI (nI (numK T tn (nxK T tn (nxK T tn (nxK T tn tk))))))]) (st' := [vI (nI (numK T tn (nxK T tn (nxK T tn tk)))), vI (nI (177 + 3 * (sn S 3) + 1)), vR 801]) rfl (by rw [(show ((177 + (3 * S 3)) + 1) = nI (177 + 3 * (sn S 3) + 1) from ((g_add (g_add (show (177 : Int32) = nI 177 from rfl) (g_mul (show (3 : Int32) = nI 3 from rfl) (hI.c3))) (show (1 : Int32) = nI 1 from rfl))).trans (congrArg nI (by omega)))]) rfl ?_
            refine g_ast rfl (g_A (a := 801) (kd := 1) (n := 2407) rfl (by decide)) (by decide) (show nI (177 + 3 * (sn S 3) + 1) = nI (177 + 3 * (sn S 3) + 1) from (rfl : nI (177 + 3 * (sn S 3) + 1) = nI (177 + 3 * (sn S 3) + 1))) (by omega) ?_
            refine g_setv (fun s16 es16 => ?_)
            have hMs16 : MK T tn (nxK T tn (nxK T tn (nxK T tn (nxK T tn tk)))) s16 := hMs15.eq (by rw [es16, mu_ne (by decide)]) (by rw [es16, mu_ne (by decide)])
            have hEs16 : s16 800 11 = nI (spK T tn (nxK T tn (nxK T tn (nxK T tn tk)))) := by rw [es16, mu_ne (by decide)]; exact hEs15
            have hGs16 : FRm sg0 s16 := by rw [es16]; exact hGs15.m801 (by omega)
            have hSs16 : s16 801 = upd (upd S (177 + 3 * (sn S 3)) (nI (numK T tn (nxK T tn tk)))) (177 + 3 * (sn S 3) + 1) (nI (numK T tn (nxK T tn (nxK T tn tk)))) := by rw [es16, mu_row, hSs15]
            refine g_pure 10 (i' := 64) (lv' := [some (vR 800), some (vI (S 3)), some (vI (nI (numK T tn (nxK T tn tk)))), some (vI (nI (numK T tn (nxK T tn (nxK T tn tk))))), some (vI (nI (numK T tn (nxK T tn (nxK T tn (nxK T tn tk))))))]) (st' := [vI (nI (numK T tn (nxK T tn (nxK T tn (nxK T tn tk))))), vI ((177 + (3 * S 3)) + 2), vR 801]) rfl ?_
            refine gW_eq (lv' := [some (vR 800), some (vI (S 3)), some (vI (nI (numK T tn (nxK T tn tk)))), some (vI (nI (numK T tn (nxK T tn (nxK T tn tk))))), some (vI (nI (numK T tn (nxK T tn (nxK T tn (nxK T tn tk))))))]) (st' := [vI (nI (numK T tn (nxK T tn (nxK T tn (nxK T tn tk))))), vI (nI (177 + 3 * (sn S 3) + 2)), vR 801]) rfl (by rw [(show ((177 + (3 * S 3)) + 2) = nI (177 + 3 * (sn S 3) + 2) from ((g_add (g_add (show (177 : Int32) = nI 177 from rfl) (g_mul (show (3 : Int32) = nI 3 from rfl) (hI.c3))) (show (2 : Int32) = nI 2 from rfl))).trans (congrArg nI (by omega)))]) rfl ?_
            refine g_ast rfl (g_A (a := 801) (kd := 1) (n := 2407) rfl (by decide)) (by decide) (show nI (177 + 3 * (sn S 3) + 2) = nI (177 + 3 * (sn S 3) + 2) from (rfl : nI (177 + 3 * (sn S 3) + 2) = nI (177 + 3 * (sn S 3) + 2))) (by omega) ?_
            refine g_setv (fun s17 es17 => ?_)
            have hMs17 : MK T tn (nxK T tn (nxK T tn (nxK T tn (nxK T tn tk)))) s17 := hMs16.eq (by rw [es17, mu_ne (by decide)]) (by rw [es17, mu_ne (by decide)])
            have hEs17 : s17 800 11 = nI (spK T tn (nxK T tn (nxK T tn (nxK T tn tk)))) := by rw [es17, mu_ne (by decide)]; exact hEs16
            have hGs17 : FRm sg0 s17 := by rw [es17]; exact hGs16.m801 (by omega)
            have hSs17 : s17 801 = upd (upd (upd S (177 + 3 * (sn S 3)) (nI (numK T tn (nxK T tn tk)))) (177 + 3 * (sn S 3) + 1) (nI (numK T tn (nxK T tn (nxK T tn tk))))) (177 + 3 * (sn S 3) + 2) (nI (numK T tn (nxK T tn (nxK T tn (nxK T tn tk))))) := by rw [es17, mu_row, hSs16]
            refine g_pure 4 (i' := 69) (lv' := [some (vR 800), some (vI (S 3)), some (vI (nI (numK T tn (nxK T tn tk)))), some (vI (nI (numK T tn (nxK T tn (nxK T tn tk))))), some (vI (nI (numK T tn (nxK T tn (nxK T tn (nxK T tn tk))))))]) (st' := [vI 3, vR 801, vI 3, vR 801]) rfl ?_
            refine g_ald rfl (g_A (a := 801) (kd := 1) (n := 2407) rfl (by decide)) (by decide) (show 3 = nI 3 from (show (3 : Int32) = nI 3 from rfl)) (by decide) (show _ = S 3 from ((((congrFun hSs17 3)).trans (upd_ne (by omega))).trans (upd_ne (by omega))).trans (upd_ne (by omega))) ?_
            refine g_pure 2 (i' := 72) (lv' := [some (vR 800), some (vI (S 3)), some (vI (nI (numK T tn (nxK T tn tk)))), some (vI (nI (numK T tn (nxK T tn (nxK T tn tk))))), some (vI (nI (numK T tn (nxK T tn (nxK T tn (nxK T tn tk))))))]) (st' := [vI (S 3 + 1), vI 3, vR 801]) rfl ?_
            refine gW_eq (lv' := [some (vR 800), some (vI (S 3)), some (vI (nI (numK T tn (nxK T tn tk)))), some (vI (nI (numK T tn (nxK T tn (nxK T tn tk))))), some (vI (nI (numK T tn (nxK T tn (nxK T tn (nxK T tn tk))))))]) (st' := [vI (nI (sn S 3 + 1)), vI 3, vR 801]) rfl (by rw [(show (S 3 + 1) = nI (sn S 3 + 1) from ((g_add (hI.c3) (show (1 : Int32) = nI 1 from rfl))).trans (congrArg nI (by omega)))]) rfl ?_
            refine g_ast rfl (g_A (a := 801) (kd := 1) (n := 2407) rfl (by decide)) (by decide) (show 3 = nI 3 from (show (3 : Int32) = nI 3 from rfl)) (by decide) ?_
            refine g_setv (fun s18 es18 => ?_)
            have hMs18 : MK T tn (nxK T tn (nxK T tn (nxK T tn (nxK T tn tk)))) s18 := hMs17.eq (by rw [es18, mu_ne (by decide)]) (by rw [es18, mu_ne (by decide)])
            have hEs18 : s18 800 11 = nI (spK T tn (nxK T tn (nxK T tn (nxK T tn tk)))) := by rw [es18, mu_ne (by decide)]; exact hEs17
            have hGs18 : FRm sg0 s18 := by rw [es18]; exact hGs17.m801 (by omega)
            have hSs18 : s18 801 = upd (upd (upd (upd S (177 + 3 * (sn S 3)) (nI (numK T tn (nxK T tn tk)))) (177 + 3 * (sn S 3) + 1) (nI (numK T tn (nxK T tn (nxK T tn tk))))) (177 + 3 * (sn S 3) + 2) (nI (numK T tn (nxK T tn (nxK T tn (nxK T tn tk)))))) 3 (nI (sn S 3 + 1)) := by rw [es18, mu_row, hSs17]
            refine g_pure 1 (i' := 74) (lv' := [some (vR 800), some (vI (S 3)), some (vI (nI (numK T tn (nxK T tn tk)))), some (vI (nI (numK T tn (nxK T tn (nxK T tn tk))))), some (vI (nI (numK T tn (nxK T tn (nxK T tn (nxK T tn tk))))))]) (st' := [vI 1]) rfl ?_
            refine g_bret rfl g_nar1 ?_
            exact o1 h1 h2 s3 es3 h6 s7 es7 h10 h11 s12 es12 s15 es15 s16 es16 s17 es17 s18 es18 hMs18 hGs18 hEs18 hSs18
          · refine gW_eq (st' := [vI 5, vI (nI 1), vR 800]) rfl (by rw [(show (1 : Int32) = nI 1 from rfl)]) rfl ?_
            refine g_cV1E rfl (args := [vR 800, vI (nI 1), vI 5]) (rest := []) rfl rfl rfl (s_196b (m := 6) (d := d + 1) hMs7 (by omega) (by omega) (show (5 : Int32) = nI 6 - 1 from by decide) (by assumption)) (fun s19 es19 => ?_)
            have hSs19 : s19 801 = S := (es19.1.1 801 (by decide)).trans hSs7
            have hEs19 := es19.2
            have hGs19 := hGs7.mf es19.1
            refine g_pure 2 (i' := 31) (lv' := [some (vR 800), some (vI (S 3)), some (vI (nI (numK T tn (nxK T tn tk)))), some (vI (nI (numK T tn (nxK T tn (nxK T tn tk))))), some (vI (-1))]) (st' := [vI (-1)]) rfl ?_
            refine g_if1 (i' := 34) (P := 0 ≤ ((-1) : Int32)) rfl rfl Iff.rfl (fun h20 => absurd h20 (by decide)) (fun _ => ?_)
            refine g_pure 1 (i' := 33) (lv' := [some (vR 800), some (vI (S 3)), some (vI (nI (numK T tn (nxK T tn tk)))), some (vI (nI (numK T tn (nxK T tn (nxK T tn tk))))), some (vI (-1))]) (st' := [vI 0]) rfl ?_
            refine g_bret rfl g_nar0 ?_
            exact o2 h1 h2 s3 es3 h6 s7 es7 h10 h11 s19 es19 hGs19 hEs19 hSs19
        · have h10 := Classical.not_not.mp h10
          refine g_pure 1 (i' := 24) (lv' := [some (vR 800), some (vI (S 3)), some (vI (nI (numK T tn (nxK T tn tk)))), some (vI (nI (numK T tn (nxK T tn (nxK T tn tk))))), none]) (st' := [vI 0]) rfl ?_
          refine g_bret rfl g_nar0 ?_
          exact o3 h1 h2 s3 es3 h6 s7 es7 h10 hMs7 hGs7 hEs7 hSs7
      · refine g_cV1E rfl (args := [vR 800]) (rest := []) rfl rfl rfl (s_204b (d := d) hMs3 (((congrFun hSs3 0)).trans (hI.c0)) (by omega) (by assumption)) (fun s21 es21 => ?_)
        have hSs21 : s21 801 = S := (es21.1.1 801 (by decide)).trans hSs3
        have hEs21 := es21.2
        have hGs21 := hGs3.mf es21.1
        refine g_pure 2 (i' := 19) (lv' := [some (vR 800), some (vI (S 3)), some (vI (nI (numK T tn (nxK T tn tk)))), some (vI (-1)), none]) (st' := [vI (-1)]) rfl ?_
        refine g_if1 (i' := 23) (P := ((-1) : Int32) < 0) rfl rfl Iff.rfl (fun _ => ?_) (fun h22 => absurd (by decide) h22)
        refine g_pure 1 (i' := 24) (lv' := [some (vR 800), some (vI (S 3)), some (vI (nI (numK T tn (nxK T tn tk)))), some (vI (-1)), none]) (st' := [vI 0]) rfl ?_
        refine g_bret rfl g_nar0 ?_
        exact o4 h1 h2 s3 es3 h6 s21 es21 hGs21 hEs21 hSs21
    · refine g_cV1E rfl (args := [vR 800]) (rest := []) rfl rfl rfl (s_204b (d := d) hM (((congrFun hS 0)).trans (hI.c0)) (by omega) (by assumption)) (fun s23 es23 => ?_)
      have hSs23 : s23 801 = S := (es23.1.1 801 (by decide)).trans hS
      have hEs23 := es23.2
      have hGs23 := hG.mf es23.1
      refine g_pure 2 (i' := 12) (lv' := [some (vR 800), some (vI (S 3)), some (vI (-1)), none, none]) (st' := [vI (-1)]) rfl ?_
      refine g_if1 (i' := 15) (P := 0 ≤ ((-1) : Int32)) rfl rfl Iff.rfl (fun h24 => absurd h24 (by decide)) (fun _ => ?_)
      refine g_pure 4 (i' := 19) (lv' := [some (vR 800), some (vI (S 3)), some (vI (-1)), some (vI (-1)), none]) (st' := [vI (-1)]) rfl ?_
      refine g_if1 (i' := 23) (P := ((-1) : Int32) < 0) rfl rfl Iff.rfl (fun _ => ?_) (fun h25 => absurd (by decide) h25)
      refine g_pure 1 (i' := 24) (lv' := [some (vR 800), some (vI (S 3)), some (vI (-1)), some (vI (-1)), none]) (st' := [vI 0]) rfl ?_
      refine g_bret rfl g_nar0 ?_
      exact o5 h1 h2 s23 es23 hGs23 hEs23 hSs23
  · have h1 := Classical.not_not.mp h1
    refine g_pure 1 (i' := 7) (lv' := [some (vR 800), some (vI (S 3)), none, none, none]) (st' := [vI 0]) rfl ?_
    refine g_bret rfl g_nar0 ?_
    exact o6 h1 hM hG hE hS

theorem s_208 {X : Nat × (Nat → Int32)} {d : Nat} {p : Nat → Nat} {sg : Mg} {B : Nat} {S : Nat → Int32} (hI : Inv B S) (hS : sg 801 = S) {T : Nat → Int32} {tn tk : Nat} (hM : MK T tn (nxK T tn tk) sg) (hE : sg 800 11 = nI (spK T tn tk)) : gF X (d + 6) 208 [vR 800] p sg (lnM (prRoa T tn tk S) T tn sg p) := by
  have b0 := hI.b0; have b1 := hI.b1; have b2 := hI.b2; have b3 := hI.b3; have b4 := hI.b4; have b5 := hI.b5; have b6 := hI.b6; have b7 := hI.b7; have b8 := hI.b8; have b9 := hI.b9; have b14 := hI.b14
  refine g_in (cd := k_208) (nL := 5) (rc := 13) rfl (g_A (a := 800) (kd := 0) (n := 12) rfl (by decide)) (g_c1 rfl) (b_208_0 hI hS hM hE (FRm.rf sg) ?_ ?_ ?_ ?_ ?_ ?_)
  · intro h0 h1 s2 e2 h3 s4 e4 h5 h6 s7 e7 s8 e8 s9 e9 s10 e10 s11 e11 cM cG cE cS
    have g0 : sn S 3 < 12 := by omega
    have g5 : ¬ numK T tn (nxK T tn (nxK T tn tk)) = numK T tn (nxK T tn tk) := fun e9 => h5 e9.symm
    have e : prRoa T tn tk S = .inr (nxK T tn (nxK T tn (nxK T tn (nxK T tn tk))), (upd (upd (upd (upd S (177 + 3 * (sn S 3)) (nI (numK T tn (nxK T tn tk)))) (177 + 3 * (sn S 3) + 1) (nI (numK T tn (nxK T tn (nxK T tn tk))))) (177 + 3 * (sn S 3) + 2) (nI (numK T tn (nxK T tn (nxK T tn (nxK T tn tk)))))) 3 (nI (sn S 3 + 1)))) := by simp only [prRoa, tkN, g0, h1, h3, h5, g5, h6, sel_T, sel_F, not_true_eq_false, not_false_eq_true, and_true, true_and, and_false, false_and, and_self, ne_eq, dcN_p, upd_upd]
    rw [e]
    exact ⟨_, ⟨cG, cM, cS⟩, rfl⟩
  · intro h0 h1 s2 e2 h3 s4 e4 h5 h6 s7 e7 cG cE cS
    have g0 : sn S 3 < 12 := by omega
    have g5 : ¬ numK T tn (nxK T tn (nxK T tn tk)) = numK T tn (nxK T tn tk) := fun e9 => h5 e9.symm
    have e : prRoa T tn tk S = .inl (spK T tn (nxK T tn (nxK T tn (nxK T tn tk)))) := by simp only [prRoa, tkN, g0, h1, h3, h5, g5, h6, sel_T, sel_F, not_true_eq_false, not_false_eq_true, and_true, true_and, and_false, false_and, and_self, ne_eq, dcN_p, upd_upd]
    rw [e]
    exact ⟨_, ⟨cG, cE⟩, rfl⟩
  · intro h0 h1 s2 e2 h3 s4 e4 h5 cM cG cE cS
    have g0 : sn S 3 < 12 := by omega
    have g5 : numK T tn (nxK T tn (nxK T tn tk)) = numK T tn (nxK T tn tk) := h5.symm
    have e : prRoa T tn tk S = .inl (spK T tn (nxK T tn (nxK T tn tk))) := by simp only [prRoa, tkN, g0, h1, h3, g5, sel_T, sel_F, not_true_eq_false, not_false_eq_true, and_true, true_and, and_false, false_and, and_self, ne_eq, dcN_p, upd_upd]
    rw [e]
    exact ⟨_, ⟨cG, cE⟩, rfl⟩
  · intro h0 h1 s2 e2 h3 s4 e4 cG cE cS
    have g0 : sn S 3 < 12 := by omega
    have e : prRoa T tn tk S = .inl (spK T tn (nxK T tn (nxK T tn tk))) := by simp only [prRoa, tkN, g0, h1, h3, sel_T, sel_F, not_true_eq_false, not_false_eq_true, and_true, true_and, and_false, false_and, and_self, ne_eq, dcN_p, upd_upd]
    rw [e]
    exact ⟨_, ⟨cG, cE⟩, rfl⟩
  · intro h0 h1 s2 e2 cG cE cS
    have g0 : sn S 3 < 12 := by omega
    have e : prRoa T tn tk S = .inl (spK T tn (nxK T tn tk)) := by simp only [prRoa, tkN, g0, h1, sel_T, sel_F, not_true_eq_false, not_false_eq_true, and_true, true_and, and_false, false_and, and_self, ne_eq, dcN_p, upd_upd]
    rw [e]
    exact ⟨_, ⟨cG, cE⟩, rfl⟩
  · intro h0 cM cG cE cS
    have g0 : ¬ sn S 3 < 12 := by omega
    have e : prRoa T tn tk S = .inl (spK T tn tk) := by simp only [prRoa, tkN, g0, sel_T, sel_F, not_true_eq_false, not_false_eq_true, and_true, true_and, and_false, false_and, and_self, ne_eq, dcN_p, upd_upd]
    rw [e]
    exact ⟨_, ⟨cG, cE⟩, rfl⟩

theorem b_210_0 {X : Nat × (Nat → Int32)} {d : Nat} {p : Nat → Nat} {sg : Mg} {Q : am_R → Prop} {B : Nat} {S : Nat → Int32} (hI : Inv B S) (hS : sg 801 = S) {T : Nat → Int32} {tn tk : Nat} (hM : MK T tn (nxK T tn tk) sg) (hE : sg 800 11 = nI (spK T tn tk)) {sg0 : Mg} (hG : FRm sg0 sg)
    (o1 : (¬ sn S 4 = 8) → (tkP T tn (nxK T tn tk) 4 0 (sn S 1)) → ∀ s3 : Mg, (MK T tn (nxK T tn (nxK T tn tk)) s3 ∧ NR T tn (nxK T tn tk) sg s3) → (tkP T tn (nxK T tn (nxK T tn tk)) 4 0 (sn S 1)) → ∀ s7 : Mg, (MK T tn (nxK T tn (nxK T tn (nxK T tn tk))) s7 ∧ NR T tn (nxK T tn (nxK T tn tk)) s3 s7) → (¬ numK T tn (nxK T tn tk) = numK T tn (nxK T tn (nxK T tn tk))) → (tkP T tn (nxK T tn (nxK T tn (nxK T tn tk))) 4 1 1000) → ∀ s12 : Mg, (MK T tn (nxK T tn (nxK T tn (nxK T tn (nxK T tn tk)))) s12 ∧ NR T tn (nxK T tn (nxK T tn (nxK T tn tk))) s7 s12) → (isW T tn (nxK T tn (nxK T tn (nxK T tn (nxK T tn tk)))) (am_SL 7)) → (tkP T tn (nxK T tn (nxK T tn (nxK T tn (nxK T tn (nxK T tn tk))))) 4 0 (sn S 0)) → ∀ s17 : Mg, (MK T tn (nxK T tn (nxK T tn (nxK T tn (nxK T tn (nxK T tn (nxK T tn tk)))))) s17 ∧ NR T tn (nxK T tn (nxK T tn (nxK T tn (nxK T tn (nxK T tn tk))))) s12 s17) → (isW T tn (nxK T tn (nxK T tn (nxK T tn (nxK T tn (nxK T tn (nxK T tn tk)))))) (am_SL 8)) → (tkP T tn (nxK T tn (nxK T tn (nxK T tn (nxK T tn (nxK T tn (nxK T tn (nxK T tn tk))))))) 4 0 (sn S 9)) → ∀ s22 : Mg, (MK T tn (nxK T tn (nxK T tn (nxK T tn (nxK T tn (nxK T tn (nxK T tn (nxK T tn (nxK T tn tk)))))))) s22 ∧ NR T tn (nxK T tn (nxK T tn (nxK T tn (nxK T tn (nxK T tn (nxK T tn (nxK T tn tk))))))) s17 s22) → (isW T tn (nxK T tn (nxK T tn (nxK T tn (nxK T tn (nxK T tn (nxK T tn (nxK T tn (nxK T tn tk)))))))) (am_SL 9)) → (tkP T tn (nxK T tn (nxK T tn (nxK T tn (nxK T tn (nxK T tn (nxK T tn (nxK T tn (nxK T tn (nxK T tn tk))))))))) 4 0 (sn S 9)) → ∀ s27 : Mg, (MK T tn (nxK T tn (nxK T tn (nxK T tn (nxK T tn (nxK T tn (nxK T tn (nxK T tn (nxK T tn (nxK T tn (nxK T tn tk)))))))))) s27 ∧ NR T tn (nxK T tn (nxK T tn (nxK T tn (nxK T tn (nxK T tn (nxK T tn (nxK T tn (nxK T tn (nxK T tn tk))))))))) s22 s27) → (¬ numK T tn (nxK T tn (nxK T tn (nxK T tn (nxK T tn (nxK T tn (nxK T tn (nxK T tn (nxK T tn (nxK T tn tk))))))))) = numK T tn (nxK T tn (nxK T tn (nxK T tn (nxK T tn (nxK T tn (nxK T tn (nxK T tn tk)))))))) → ∀ s31 : Mg, s31 = mu s27 801 (213 + 7 * (sn S 4)) (nI (numK T tn (nxK T tn tk))) → ∀ s32 : Mg, s32 = mu s31 801 (213 + 7 * (sn S 4) + 1) (nI (numK T tn (nxK T tn (nxK T tn tk)))) → ∀ s33 : Mg, s33 = mu s32 801 (213 + 7 * (sn S 4) + 2) (nI (numK T tn (nxK T tn (nxK T tn (nxK T tn tk))))) → ∀ s34 : Mg, s34 = mu s33 801 (213 + 7 * (sn S 4) + 3) (nI (numK T tn (nxK T tn (nxK T tn (nxK T tn (nxK T tn (nxK T tn tk))))))) → ∀ s35 : Mg, s35 = mu s34 801 (213 + 7 * (sn S 4) + 4) (nI (numK T tn (nxK T tn (nxK T tn (nxK T tn (nxK T tn (nxK T tn (nxK T tn (nxK T tn tk))))))))) → ∀ s36 : Mg, s36 = mu s35 801 (213 + 7 * (sn S 4) + 5) (nI (numK T tn (nxK T tn (nxK T tn (nxK T tn (nxK T tn (nxK T tn (nxK T tn (nxK T tn (nxK T tn (nxK T tn tk))))))))))) → ∀ s37 : Mg, s37 = mu s36 801 (213 + 7 * (sn S 4) + 6) 0 → ∀ s38 : Mg, s38 = mu s37 801 4 (nI (sn S 4 + 1)) → MK T tn (nxK T tn (nxK T tn (nxK T tn (nxK T tn (nxK T tn (nxK T tn (nxK T tn (nxK T tn (nxK T tn (nxK T tn tk)))))))))) s38 → FRm sg0 s38 → s38 800 11 = nI (spK T tn (nxK T tn (nxK T tn (nxK T tn (nxK T tn (nxK T tn (nxK T tn (nxK T tn (nxK T tn (nxK T tn tk)))))))))) → s38 801 = (upd (upd (upd (upd (upd (upd (upd (upd S (213 + 7 * (sn S 4)) (nI (numK T tn (nxK T tn tk)))) (213 + 7 * (sn S 4) + 1) (nI (numK T tn (nxK T tn (nxK T tn tk))))) (213 + 7 * (sn S 4) + 2) (nI (numK T tn (nxK T tn (nxK T tn (nxK T tn tk)))))) (213 + 7 * (sn S 4) + 3) (nI (numK T tn (nxK T tn (nxK T tn (nxK T tn (nxK T tn (nxK T tn tk)))))))) (213 + 7 * (sn S 4) + 4) (nI (numK T tn (nxK T tn (nxK T tn (nxK T tn (nxK T tn (nxK T tn (nxK T tn (nxK T tn tk)))))))))) (213 + 7 * (sn S 4) + 5) (nI (numK T tn (nxK T tn (nxK T tn (nxK T tn (nxK T tn (nxK T tn (nxK T tn (nxK T tn (nxK T tn (nxK T tn tk)))))))))))) (213 + 7 * (sn S 4) + 6) 0) 4 (nI (sn S 4 + 1))) → Q (gRv p s38 1))
    (o2 : (¬ sn S 4 = 8) → (tkP T tn (nxK T tn tk) 4 0 (sn S 1)) → ∀ s3 : Mg, (MK T tn (nxK T tn (nxK T tn tk)) s3 ∧ NR T tn (nxK T tn tk) sg s3) → (tkP T tn (nxK T tn (nxK T tn tk)) 4 0 (sn S 1)) → ∀ s7 : Mg, (MK T tn (nxK T tn (nxK T tn (nxK T tn tk))) s7 ∧ NR T tn (nxK T tn (nxK T tn tk)) s3 s7) → (¬ numK T tn (nxK T tn tk) = numK T tn (nxK T tn (nxK T tn tk))) → (tkP T tn (nxK T tn (nxK T tn (nxK T tn tk))) 4 1 1000) → ∀ s12 : Mg, (MK T tn (nxK T tn (nxK T tn (nxK T tn (nxK T tn tk)))) s12 ∧ NR T tn (nxK T tn (nxK T tn (nxK T tn tk))) s7 s12) → (isW T tn (nxK T tn (nxK T tn (nxK T tn (nxK T tn tk)))) (am_SL 7)) → (tkP T tn (nxK T tn (nxK T tn (nxK T tn (nxK T tn (nxK T tn tk))))) 4 0 (sn S 0)) → ∀ s17 : Mg, (MK T tn (nxK T tn (nxK T tn (nxK T tn (nxK T tn (nxK T tn (nxK T tn tk)))))) s17 ∧ NR T tn (nxK T tn (nxK T tn (nxK T tn (nxK T tn (nxK T tn tk))))) s12 s17) → (isW T tn (nxK T tn (nxK T tn (nxK T tn (nxK T tn (nxK T tn (nxK T tn tk)))))) (am_SL 8)) → (tkP T tn (nxK T tn (nxK T tn (nxK T tn (nxK T tn (nxK T tn (nxK T tn (nxK T tn tk))))))) 4 0 (sn S 9)) → ∀ s22 : Mg, (MK T tn (nxK T tn (nxK T tn (nxK T tn (nxK T tn (nxK T tn (nxK T tn (nxK T tn (nxK T tn tk)))))))) s22 ∧ NR T tn (nxK T tn (nxK T tn (nxK T tn (nxK T tn (nxK T tn (nxK T tn (nxK T tn tk))))))) s17 s22) → (isW T tn (nxK T tn (nxK T tn (nxK T tn (nxK T tn (nxK T tn (nxK T tn (nxK T tn (nxK T tn tk)))))))) (am_SL 9)) → (tkP T tn (nxK T tn (nxK T tn (nxK T tn (nxK T tn (nxK T tn (nxK T tn (nxK T tn (nxK T tn (nxK T tn tk))))))))) 4 0 (sn S 9)) → ∀ s27 : Mg, (MK T tn (nxK T tn (nxK T tn (nxK T tn (nxK T tn (nxK T tn (nxK T tn (nxK T tn (nxK T tn (nxK T tn (nxK T tn tk)))))))))) s27 ∧ NR T tn (nxK T tn (nxK T tn (nxK T tn (nxK T tn (nxK T tn (nxK T tn (nxK T tn (nxK T tn (nxK T tn tk))))))))) s22 s27) → (numK T tn (nxK T tn (nxK T tn (nxK T tn (nxK T tn (nxK T tn (nxK T tn (nxK T tn (nxK T tn (nxK T tn tk))))))))) = numK T tn (nxK T tn (nxK T tn (nxK T tn (nxK T tn (nxK T tn (nxK T tn (nxK T tn tk)))))))) → MK T tn (nxK T tn (nxK T tn (nxK T tn (nxK T tn (nxK T tn (nxK T tn (nxK T tn (nxK T tn (nxK T tn (nxK T tn tk)))))))))) s27 → FRm sg0 s27 → s27 800 11 = nI (spK T tn (nxK T tn (nxK T tn (nxK T tn (nxK T tn (nxK T tn (nxK T tn (nxK T tn (nxK T tn (nxK T tn tk)))))))))) → s27 801 = S → Q (gRv p s27 0))
    (o3 : (¬ sn S 4 = 8) → (tkP T tn (nxK T tn tk) 4 0 (sn S 1)) → ∀ s3 : Mg, (MK T tn (nxK T tn (nxK T tn tk)) s3 ∧ NR T tn (nxK T tn tk) sg s3) → (tkP T tn (nxK T tn (nxK T tn tk)) 4 0 (sn S 1)) → ∀ s7 : Mg, (MK T tn (nxK T tn (nxK T tn (nxK T tn tk))) s7 ∧ NR T tn (nxK T tn (nxK T tn tk)) s3 s7) → (¬ numK T tn (nxK T tn tk) = numK T tn (nxK T tn (nxK T tn tk))) → (tkP T tn (nxK T tn (nxK T tn (nxK T tn tk))) 4 1 1000) → ∀ s12 : Mg, (MK T tn (nxK T tn (nxK T tn (nxK T tn (nxK T tn tk)))) s12 ∧ NR T tn (nxK T tn (nxK T tn (nxK T tn tk))) s7 s12) → (isW T tn (nxK T tn (nxK T tn (nxK T tn (nxK T tn tk)))) (am_SL 7)) → (tkP T tn (nxK T tn (nxK T tn (nxK T tn (nxK T tn (nxK T tn tk))))) 4 0 (sn S 0)) → ∀ s17 : Mg, (MK T tn (nxK T tn (nxK T tn (nxK T tn (nxK T tn (nxK T tn (nxK T tn tk)))))) s17 ∧ NR T tn (nxK T tn (nxK T tn (nxK T tn (nxK T tn (nxK T tn tk))))) s12 s17) → (isW T tn (nxK T tn (nxK T tn (nxK T tn (nxK T tn (nxK T tn (nxK T tn tk)))))) (am_SL 8)) → (tkP T tn (nxK T tn (nxK T tn (nxK T tn (nxK T tn (nxK T tn (nxK T tn (nxK T tn tk))))))) 4 0 (sn S 9)) → ∀ s22 : Mg, (MK T tn (nxK T tn (nxK T tn (nxK T tn (nxK T tn (nxK T tn (nxK T tn (nxK T tn (nxK T tn tk)))))))) s22 ∧ NR T tn (nxK T tn (nxK T tn (nxK T tn (nxK T tn (nxK T tn (nxK T tn (nxK T tn tk))))))) s17 s22) → (isW T tn (nxK T tn (nxK T tn (nxK T tn (nxK T tn (nxK T tn (nxK T tn (nxK T tn (nxK T tn tk)))))))) (am_SL 9)) → (¬ tkP T tn (nxK T tn (nxK T tn (nxK T tn (nxK T tn (nxK T tn (nxK T tn (nxK T tn (nxK T tn (nxK T tn tk))))))))) 4 0 (sn S 9)) → ∀ s39 : Mg, (NR T tn (nxK T tn (nxK T tn (nxK T tn (nxK T tn (nxK T tn (nxK T tn (nxK T tn (nxK T tn (nxK T tn tk))))))))) s22 s39) → FRm sg0 s39 → s39 800 11 = nI (spK T tn (nxK T tn (nxK T tn (nxK T tn (nxK T tn (nxK T tn (nxK T tn (nxK T tn (nxK T tn (nxK T tn tk)))))))))) → s39 801 = S → Q (gRv p s39 0))
    (o4 : (¬ sn S 4 = 8) → (tkP T tn (nxK T tn tk) 4 0 (sn S 1)) → ∀ s3 : Mg, (MK T tn (nxK T tn (nxK T tn tk)) s3 ∧ NR T tn (nxK T tn tk) sg s3) → (tkP T tn (nxK T tn (nxK T tn tk)) 4 0 (sn S 1)) → ∀ s7 : Mg, (MK T tn (nxK T tn (nxK T tn (nxK T tn tk))) s7 ∧ NR T tn (nxK T tn (nxK T tn tk)) s3 s7) → (¬ numK T tn (nxK T tn tk) = numK T tn (nxK T tn (nxK T tn tk))) → (tkP T tn (nxK T tn (nxK T tn (nxK T tn tk))) 4 1 1000) → ∀ s12 : Mg, (MK T tn (nxK T tn (nxK T tn (nxK T tn (nxK T tn tk)))) s12 ∧ NR T tn (nxK T tn (nxK T tn (nxK T tn tk))) s7 s12) → (isW T tn (nxK T tn (nxK T tn (nxK T tn (nxK T tn tk)))) (am_SL 7)) → (tkP T tn (nxK T tn (nxK T tn (nxK T tn (nxK T tn (nxK T tn tk))))) 4 0 (sn S 0)) → ∀ s17 : Mg, (MK T tn (nxK T tn (nxK T tn (nxK T tn (nxK T tn (nxK T tn (nxK T tn tk)))))) s17 ∧ NR T tn (nxK T tn (nxK T tn (nxK T tn (nxK T tn (nxK T tn tk))))) s12 s17) → (isW T tn (nxK T tn (nxK T tn (nxK T tn (nxK T tn (nxK T tn (nxK T tn tk)))))) (am_SL 8)) → (tkP T tn (nxK T tn (nxK T tn (nxK T tn (nxK T tn (nxK T tn (nxK T tn (nxK T tn tk))))))) 4 0 (sn S 9)) → ∀ s22 : Mg, (MK T tn (nxK T tn (nxK T tn (nxK T tn (nxK T tn (nxK T tn (nxK T tn (nxK T tn (nxK T tn tk)))))))) s22 ∧ NR T tn (nxK T tn (nxK T tn (nxK T tn (nxK T tn (nxK T tn (nxK T tn (nxK T tn tk))))))) s17 s22) → (¬ isW T tn (nxK T tn (nxK T tn (nxK T tn (nxK T tn (nxK T tn (nxK T tn (nxK T tn (nxK T tn tk)))))))) (am_SL 9)) → ∀ s41 : Mg, (NR T tn (nxK T tn (nxK T tn (nxK T tn (nxK T tn (nxK T tn (nxK T tn (nxK T tn (nxK T tn tk)))))))) s22 s41) → FRm sg0 s41 → s41 800 11 = nI (spK T tn (nxK T tn (nxK T tn (nxK T tn (nxK T tn (nxK T tn (nxK T tn (nxK T tn (nxK T tn tk))))))))) → s41 801 = S → Q (gRv p s41 0))
    (o5 : (¬ sn S 4 = 8) → (tkP T tn (nxK T tn tk) 4 0 (sn S 1)) → ∀ s3 : Mg, (MK T tn (nxK T tn (nxK T tn tk)) s3 ∧ NR T tn (nxK T tn tk) sg s3) → (tkP T tn (nxK T tn (nxK T tn tk)) 4 0 (sn S 1)) → ∀ s7 : Mg, (MK T tn (nxK T tn (nxK T tn (nxK T tn tk))) s7 ∧ NR T tn (nxK T tn (nxK T tn tk)) s3 s7) → (¬ numK T tn (nxK T tn tk) = numK T tn (nxK T tn (nxK T tn tk))) → (tkP T tn (nxK T tn (nxK T tn (nxK T tn tk))) 4 1 1000) → ∀ s12 : Mg, (MK T tn (nxK T tn (nxK T tn (nxK T tn (nxK T tn tk)))) s12 ∧ NR T tn (nxK T tn (nxK T tn (nxK T tn tk))) s7 s12) → (isW T tn (nxK T tn (nxK T tn (nxK T tn (nxK T tn tk)))) (am_SL 7)) → (tkP T tn (nxK T tn (nxK T tn (nxK T tn (nxK T tn (nxK T tn tk))))) 4 0 (sn S 0)) → ∀ s17 : Mg, (MK T tn (nxK T tn (nxK T tn (nxK T tn (nxK T tn (nxK T tn (nxK T tn tk)))))) s17 ∧ NR T tn (nxK T tn (nxK T tn (nxK T tn (nxK T tn (nxK T tn tk))))) s12 s17) → (isW T tn (nxK T tn (nxK T tn (nxK T tn (nxK T tn (nxK T tn (nxK T tn tk)))))) (am_SL 8)) → (¬ tkP T tn (nxK T tn (nxK T tn (nxK T tn (nxK T tn (nxK T tn (nxK T tn (nxK T tn tk))))))) 4 0 (sn S 9)) → ∀ s43 : Mg, (NR T tn (nxK T tn (nxK T tn (nxK T tn (nxK T tn (nxK T tn (nxK T tn (nxK T tn tk))))))) s17 s43) → FRm sg0 s43 → s43 800 11 = nI (spK T tn (nxK T tn (nxK T tn (nxK T tn (nxK T tn (nxK T tn (nxK T tn (nxK T tn tk)))))))) → s43 801 = S → Q (gRv p s43 0))
    (o6 : (¬ sn S 4 = 8) → (tkP T tn (nxK T tn tk) 4 0 (sn S 1)) → ∀ s3 : Mg, (MK T tn (nxK T tn (nxK T tn tk)) s3 ∧ NR T tn (nxK T tn tk) sg s3) → (tkP T tn (nxK T tn (nxK T tn tk)) 4 0 (sn S 1)) → ∀ s7 : Mg, (MK T tn (nxK T tn (nxK T tn (nxK T tn tk))) s7 ∧ NR T tn (nxK T tn (nxK T tn tk)) s3 s7) → (¬ numK T tn (nxK T tn tk) = numK T tn (nxK T tn (nxK T tn tk))) → (tkP T tn (nxK T tn (nxK T tn (nxK T tn tk))) 4 1 1000) → ∀ s12 : Mg, (MK T tn (nxK T tn (nxK T tn (nxK T tn (nxK T tn tk)))) s12 ∧ NR T tn (nxK T tn (nxK T tn (nxK T tn tk))) s7 s12) → (isW T tn (nxK T tn (nxK T tn (nxK T tn (nxK T tn tk)))) (am_SL 7)) → (tkP T tn (nxK T tn (nxK T tn (nxK T tn (nxK T tn (nxK T tn tk))))) 4 0 (sn S 0)) → ∀ s17 : Mg, (MK T tn (nxK T tn (nxK T tn (nxK T tn (nxK T tn (nxK T tn (nxK T tn tk)))))) s17 ∧ NR T tn (nxK T tn (nxK T tn (nxK T tn (nxK T tn (nxK T tn tk))))) s12 s17) → (¬ isW T tn (nxK T tn (nxK T tn (nxK T tn (nxK T tn (nxK T tn (nxK T tn tk)))))) (am_SL 8)) → ∀ s46 : Mg, (NR T tn (nxK T tn (nxK T tn (nxK T tn (nxK T tn (nxK T tn (nxK T tn tk)))))) s17 s46) → FRm sg0 s46 → s46 800 11 = nI (spK T tn (nxK T tn (nxK T tn (nxK T tn (nxK T tn (nxK T tn (nxK T tn tk))))))) → s46 801 = S → Q (gRv p s46 0))
    (o7 : (¬ sn S 4 = 8) → (tkP T tn (nxK T tn tk) 4 0 (sn S 1)) → ∀ s3 : Mg, (MK T tn (nxK T tn (nxK T tn tk)) s3 ∧ NR T tn (nxK T tn tk) sg s3) → (tkP T tn (nxK T tn (nxK T tn tk)) 4 0 (sn S 1)) → ∀ s7 : Mg, (MK T tn (nxK T tn (nxK T tn (nxK T tn tk))) s7 ∧ NR T tn (nxK T tn (nxK T tn tk)) s3 s7) → (¬ numK T tn (nxK T tn tk) = numK T tn (nxK T tn (nxK T tn tk))) → (tkP T tn (nxK T tn (nxK T tn (nxK T tn tk))) 4 1 1000) → ∀ s12 : Mg, (MK T tn (nxK T tn (nxK T tn (nxK T tn (nxK T tn tk)))) s12 ∧ NR T tn (nxK T tn (nxK T tn (nxK T tn tk))) s7 s12) → (isW T tn (nxK T tn (nxK T tn (nxK T tn (nxK T tn tk)))) (am_SL 7)) → (¬ tkP T tn (nxK T tn (nxK T tn (nxK T tn (nxK T tn (nxK T tn tk))))) 4 0 (sn S 0)) → ∀ s49 : Mg, (NR T tn (nxK T tn (nxK T tn (nxK T tn (nxK T tn (nxK T tn tk))))) s12 s49) → FRm sg0 s49 → s49 800 11 = nI (spK T tn (nxK T tn (nxK T tn (nxK T tn (nxK T tn (nxK T tn tk)))))) → s49 801 = S → Q (gRv p s49 0))
    (o8 : (¬ sn S 4 = 8) → (tkP T tn (nxK T tn tk) 4 0 (sn S 1)) → ∀ s3 : Mg, (MK T tn (nxK T tn (nxK T tn tk)) s3 ∧ NR T tn (nxK T tn tk) sg s3) → (tkP T tn (nxK T tn (nxK T tn tk)) 4 0 (sn S 1)) → ∀ s7 : Mg, (MK T tn (nxK T tn (nxK T tn (nxK T tn tk))) s7 ∧ NR T tn (nxK T tn (nxK T tn tk)) s3 s7) → (¬ numK T tn (nxK T tn tk) = numK T tn (nxK T tn (nxK T tn tk))) → (tkP T tn (nxK T tn (nxK T tn (nxK T tn tk))) 4 1 1000) → ∀ s12 : Mg, (MK T tn (nxK T tn (nxK T tn (nxK T tn (nxK T tn tk)))) s12 ∧ NR T tn (nxK T tn (nxK T tn (nxK T tn tk))) s7 s12) → (¬ isW T tn (nxK T tn (nxK T tn (nxK T tn (nxK T tn tk)))) (am_SL 7)) → ∀ s53 : Mg, (NR T tn (nxK T tn (nxK T tn (nxK T tn (nxK T tn tk)))) s12 s53) → FRm sg0 s53 → s53 800 11 = nI (spK T tn (nxK T tn (nxK T tn (nxK T tn (nxK T tn tk))))) → s53 801 = S → Q (gRv p s53 0))
    (o9 : (¬ sn S 4 = 8) → (tkP T tn (nxK T tn tk) 4 0 (sn S 1)) → ∀ s3 : Mg, (MK T tn (nxK T tn (nxK T tn tk)) s3 ∧ NR T tn (nxK T tn tk) sg s3) → (tkP T tn (nxK T tn (nxK T tn tk)) 4 0 (sn S 1)) → ∀ s7 : Mg, (MK T tn (nxK T tn (nxK T tn (nxK T tn tk))) s7 ∧ NR T tn (nxK T tn (nxK T tn tk)) s3 s7) → (¬ numK T tn (nxK T tn tk) = numK T tn (nxK T tn (nxK T tn tk))) → (¬ tkP T tn (nxK T tn (nxK T tn (nxK T tn tk))) 4 1 1000) → ∀ s57 : Mg, (NR T tn (nxK T tn (nxK T tn (nxK T tn tk))) s7 s57) → FRm sg0 s57 → s57 800 11 = nI (spK T tn (nxK T tn (nxK T tn (nxK T tn tk)))) → s57 801 = S → Q (gRv p s57 0))
    (o10 : (¬ sn S 4 = 8) → (tkP T tn (nxK T tn tk) 4 0 (sn S 1)) → ∀ s3 : Mg, (MK T tn (nxK T tn (nxK T tn tk)) s3 ∧ NR T tn (nxK T tn tk) sg s3) → (tkP T tn (nxK T tn (nxK T tn tk)) 4 0 (sn S 1)) → ∀ s7 : Mg, (MK T tn (nxK T tn (nxK T tn (nxK T tn tk))) s7 ∧ NR T tn (nxK T tn (nxK T tn tk)) s3 s7) → (numK T tn (nxK T tn tk) = numK T tn (nxK T tn (nxK T tn tk))) → MK T tn (nxK T tn (nxK T tn (nxK T tn tk))) s7 → FRm sg0 s7 → s7 800 11 = nI (spK T tn (nxK T tn (nxK T tn tk))) → s7 801 = S → Q (gRv p s7 0))
    (o11 : (¬ sn S 4 = 8) → (tkP T tn (nxK T tn tk) 4 0 (sn S 1)) → ∀ s3 : Mg, (MK T tn (nxK T tn (nxK T tn tk)) s3 ∧ NR T tn (nxK T tn tk) sg s3) → (¬ tkP T tn (nxK T tn (nxK T tn tk)) 4 0 (sn S 1)) → ∀ s62 : Mg, (NR T tn (nxK T tn (nxK T tn tk)) s3 s62) → FRm sg0 s62 → s62 800 11 = nI (spK T tn (nxK T tn (nxK T tn tk))) → s62 801 = S → Q (gRv p s62 0))
    (o12 : (¬ sn S 4 = 8) → (¬ tkP T tn (nxK T tn tk) 4 0 (sn S 1)) → ∀ s64 : Mg, (NR T tn (nxK T tn tk) sg s64) → FRm sg0 s64 → s64 800 11 = nI (spK T tn (nxK T tn tk)) → s64 801 = S → Q (gRv p s64 0))
    (o13 : (sn S 4 = 8) → MK T tn (nxK T tn tk) sg → FRm sg0 sg → sg 800 11 = nI (spK T tn tk) → sg 801 = S → Q (gRv p sg 0)) :
    gW X (d + 5) k_210 0 [some (vR 800), none, none, none, none, none, none, none] [] p sg Q := by
  have b0 := hI.b0; have b1 := hI.b1; have b2 := hI.b2; have b3 := hI.b3; have b4 := hI.b4; have b5 := hI.b5; have b6 := hI.b6; have b7 := hI.b7; have b8 := hI.b8; have b9 := hI.b9; have b14 := hI.b14
  refine g_pure 5 (i' := 5) (lv' := [some (vR 800), none, none, none, none, none, none, none]) (st' := [vI 4, vR 801, vI 7, vI 213]) rfl ?_
  refine g_ald rfl (g_A (a := 801) (kd := 1) (n := 2407) rfl (by decide)) (by decide) (show 4 = nI 4 from (show (4 : Int32) = nI 4 from rfl)) (by decide) (show _ = S 4 from (congrFun hS 4)) ?_
  refine g_pure 6 (i' := 12) (lv' := [some (vR 800), some (vI (213 + (7 * S 4))), none, none, none, none, none, none]) (st' := [vI 4, vR 801]) rfl ?_
  refine gW_eq (lv' := [some (vR 800), some (vI (nI (213 + 7 * (sn S 4)))), none, none, none, none, none, none]) (st' := [vI 4, vR 801]) (by rw [(show (213 + (7 * S 4)) = nI (213 + 7 * (sn S 4)) from ((g_add (show (213 : Int32) = nI 213 from rfl) (g_mul (show (7 : Int32) = nI 7 from rfl) (hI.c4)))).trans (congrArg nI (by omega)))]) rfl rfl ?_
  refine g_ald rfl (g_A (a := 801) (kd := 1) (n := 2407) rfl (by decide)) (by decide) (show 4 = nI 4 from (show (4 : Int32) = nI 4 from rfl)) (by decide) (show _ = S 4 from (congrFun hS 4)) ?_
  refine g_pure 1 (i' := 14) (lv' := [some (vR 800), some (vI (nI (213 + 7 * (sn S 4)))), none, none, none, none, none, none]) (st' := [vI 8, vI (S 4)]) rfl ?_
  refine g_if2 (i' := 17) (P := ¬ sn S 4 = 8) rfl rfl (g_neN (show S 4 = nI (sn S 4) from (hI.c4)) (show 8 = nI 8 from (show (8 : Int32) = nI 8 from rfl)) (by omega) (by omega)) (fun h1 => ?_) (fun h1 => ?_)
  · refine g_pure 1 (i' := 18) (lv' := [some (vR 800), some (vI (nI (213 + 7 * (sn S 4)))), none, none, none, none, none, none]) (st' := [vR 800]) rfl ?_
    by_cases h2 : tkP T tn (nxK T tn tk) 4 0 (sn S 1)
    · refine g_cV1E rfl (args := [vR 800]) (rest := []) rfl rfl rfl (s_211a (d := d) hM (((congrFun hS 1)).trans (hI.c1)) (by omega) (by assumption)) (fun s3 es3 => ?_)
      have hSs3 : s3 801 = S := (es3.2.1.1 801 (by decide)).trans hS
      have hMs3 := es3.1
      have hEs3 := es3.2.2
      have hGs3 := hG.mf es3.2.1
      have t4 := (show tkP T tn (nxK T tn tk) 4 0 (sn S 1) by assumption).2.2.2
      refine g_pure 2 (i' := 21) (lv' := [some (vR 800), some (vI (nI (213 + 7 * (sn S 4)))), some (vI (nI (numK T tn (nxK T tn tk)))), none, none, none, none, none]) (st' := [vI (nI (numK T tn (nxK T tn tk)))]) rfl ?_
      refine g_if1 (i' := 24) (P := 0 ≤ numK T tn (nxK T tn tk)) rfl rfl (g_geN (show nI (numK T tn (nxK T tn tk)) = nI (numK T tn (nxK T tn tk)) from (rfl : nI (numK T tn (nxK T tn tk)) = nI (numK T tn (nxK T tn tk)))) (show 0 = nI 0 from (show (0 : Int32) = nI 0 from rfl)) (by omega) (by omega)) (fun _ => ?_) (fun h5 => absurd (by omega) h5)
      refine g_pure 1 (i' := 25) (lv' := [some (vR 800), some (vI (nI (213 + 7 * (sn S 4)))), some (vI (nI (numK T tn (nxK T tn tk)))), none, none, none, none, none]) (st' := [vR 800]) rfl ?_
      by_cases h6 : tkP T tn (nxK T tn (nxK T tn tk)) 4 0 (sn S 1)
      · refine g_cV1E rfl (args := [vR 800]) (rest := []) rfl rfl rfl (s_211a (d := d) hMs3 (((congrFun hSs3 1)).trans (hI.c1)) (by omega) (by assumption)) (fun s7 es7 => ?_)
        have hSs7 : s7 801 = S := (es7.2.1.1 801 (by decide)).trans hSs3
        have hMs7 := es7.1
        have hEs7 := es7.2.2
        have hGs7 := hGs3.mf es7.2.1
        have t8 := (show tkP T tn (nxK T tn (nxK T tn tk)) 4 0 (sn S 1) by assumption).2.2.2
        refine g_pure 2 (i' := 28) (lv' := [some (vR 800), some (vI (nI (213 + 7 * (sn S 4)))), some (vI (nI (numK T tn (nxK T tn tk)))), some (vI (nI (numK T tn (nxK T tn (nxK T tn tk))))), none, none, none, none]) (st' := [vI (nI (numK T tn (nxK T tn (nxK T tn tk))))]) rfl ?_
        refine g_if1 (i' := 32) (P := numK T tn (nxK T tn (nxK T tn tk)) < 0) rfl rfl (g_ltN (show nI (numK T tn (nxK T tn (nxK T tn tk))) = nI (numK T tn (nxK T tn (nxK T tn tk))) from (rfl : nI (numK T tn (nxK T tn (nxK T tn tk))) = nI (numK T tn (nxK T tn (nxK T tn tk))))) (show 0 = nI 0 from (show (0 : Int32) = nI 0 from rfl)) (by omega) (by omega)) (fun h9 => absurd h9 (by omega)) (fun _ => ?_)
        refine g_pure 2 (i' := 31) (lv' := [some (vR 800), some (vI (nI (213 + 7 * (sn S 4)))), some (vI (nI (numK T tn (nxK T tn tk)))), some (vI (nI (numK T tn (nxK T tn (nxK T tn tk))))), none, none, none, none]) (st' := [vI (nI (numK T tn (nxK T tn (nxK T tn tk)))), vI (nI (numK T tn (nxK T tn tk)))]) rfl ?_
        refine g_if2 (i' := 34) (P := ¬ numK T tn (nxK T tn tk) = numK T tn (nxK T tn (nxK T tn tk))) rfl rfl (g_neN (show nI (numK T tn (nxK T tn tk)) = nI (numK T tn (nxK T tn tk)) from (rfl : nI (numK T tn (nxK T tn tk)) = nI (numK T tn (nxK T tn tk)))) (show nI (numK T tn (nxK T tn (nxK T tn tk))) = nI (numK T tn (nxK T tn (nxK T tn tk))) from (rfl : nI (numK T tn (nxK T tn (nxK T tn tk))) = nI (numK T tn (nxK T tn (nxK T tn tk))))) (by omega) (by omega)) (fun h10 => ?_) (fun h10 => ?_)
        · refine g_pure 3 (i' := 37) (lv' := [some (vR 800), some (vI (nI (213 + 7 * (sn S 4)))), some (vI (nI (numK T tn (nxK T tn tk)))), some (vI (nI (numK T tn (nxK T tn (nxK T tn tk))))), none, none, none, none]) (st' := [vI 999, vI 1, vR 800]) rfl ?_
          by_cases h11 : tkP T tn (nxK T tn (nxK T tn (nxK T tn tk))) 4 1 1000
          · refine gW_eq (st' := [vI 999, vI (nI 1), vR 800]) rfl (by rw [(show (1 : Int32) = nI 1 from rfl)]) rfl ?_
            refine g_cV1E rfl (args := [vR 800, vI (nI 1), vI 999]) (rest := []) rfl rfl rfl (s_196a (m := 1000) (d := d + 1) hMs7 (by omega) (by omega) (show (999 : Int32) = nI 1000 - 1 from by decide) (by assumption)) (fun s12 es12 => ?_)
            have hSs12 : s12 801 = S := (es12.2.1.1 801 (by decide)).trans hSs7
            have hMs12 := es12.1
            have hEs12 := es12.2.2
            have hGs12 := hGs7.mf es12.2.1
            have t13 := (show tkP T tn (nxK T tn (nxK T tn (nxK T tn tk))) 4 1 1000 by assumption).2.2
            refine g_pure 2 (i' := 40) (lv' := [some (vR 800), some (vI (nI (213 + 7 * (sn S 4)))), some (vI (nI (numK T tn (nxK T tn tk)))), some (vI (nI (numK T tn (nxK T tn (nxK T tn tk))))), some (vI (nI (numK T tn (nxK T tn (nxK T tn (nxK T tn tk)))))), none, none, none]) (st' := [vI (nI (numK T tn (nxK T tn (nxK T tn (nxK T tn tk)))))]) rfl ?_
            refine g_if1 (i' := 43) (P := 0 ≤ numK T tn (nxK T tn (nxK T tn (nxK T tn tk)))) rfl rfl (g_geN (show nI (numK T tn (nxK T tn (nxK T tn (nxK T tn tk)))) = nI (numK T tn (nxK T tn (nxK T tn (nxK T tn tk)))) from (rfl : nI (numK T tn (nxK T tn (nxK T tn (nxK T tn tk)))) = nI (numK T tn (nxK T tn (nxK T tn (nxK T tn tk)))))) (show 0 = nI 0 from (show (0 : Int32) = nI 0 from rfl)) (by omega) (by omega)) (fun _ => ?_) (fun h14 => absurd (by omega) h14)
            refine g_pure 4 (i' := 47) (lv' := [some (vR 800), some (vI (nI (213 + 7 * (sn S 4)))), some (vI (nI (numK T tn (nxK T tn tk)))), some (vI (nI (numK T tn (nxK T tn (nxK T tn tk))))), some (vI (nI (numK T tn (nxK T tn (nxK T tn (nxK T tn tk)))))), none, none, none]) (st' := [vR 800, vI 0, vS 55, vR 800]) rfl ?_
            refine g_cV1 rfl (args := [vR 800]) (rest := [vI 0, vS 55, vR 800]) rfl rfl rfl (s_195 (d := d + 4) hSs12) ?_
            refine g_pure 1 (i' := 49) (lv' := [some (vR 800), some (vI (nI (213 + 7 * (sn S 4)))), some (vI (nI (numK T tn (nxK T tn tk)))), some (vI (nI (numK T tn (nxK T tn (nxK T tn tk))))), some (vI (nI (numK T tn (nxK T tn (nxK T tn (nxK T tn tk)))))), none, none, none]) (st' := [vI 1, vI (S 0), vI 0, vS 55, vR 800]) rfl ?_
            refine gW_eq (lv' := [some (vR 800), some (vI (nI (213 + 7 * (sn S 4)))), some (vI (nI (numK T tn (nxK T tn tk)))), some (vI (nI (numK T tn (nxK T tn (nxK T tn tk))))), some (vI (nI (numK T tn (nxK T tn (nxK T tn (nxK T tn tk)))))), none, none, none]) (st' := [vI 1, vI (nI (sn S 0)), vI 0, vS 55, vR 800]) rfl (by rw [(show S 0 = nI (sn S 0) from (hI.c0))]) rfl ?_
            refine g_pure 1 (i' := 50) (lv' := [some (vR 800), some (vI (nI (213 + 7 * (sn S 4)))), some (vI (nI (numK T tn (nxK T tn tk)))), some (vI (nI (numK T tn (nxK T tn (nxK T tn tk))))), some (vI (nI (numK T tn (nxK T tn (nxK T tn (nxK T tn tk)))))), none, none, none]) (st' := [vI (nI (sn S 0) - 1), vI 0, vS 55, vR 800]) rfl ?_
            by_cases h15 : isW T tn (nxK T tn (nxK T tn (nxK T tn (nxK T tn tk)))) (am_SL 7)
            · by_cases h16 : tkP T tn (nxK T tn (nxK T tn (nxK T tn (nxK T tn (nxK T tn tk))))) 4 0 (sn S 0)
              · refine gW_eq (st' := [vI (nI (sn S 0) - 1), vI (nI 0), vS 55, vR 800]) rfl (by rw [(show (0 : Int32) = nI 0 from rfl)]) rfl ?_
                refine g_cV1E rfl (args := [vR 800, vS 55, vI (nI 0), vI (nI (sn S 0) - 1)]) (rest := []) rfl rfl rfl (s_212a (m := sn S 0) (d := d) (by decide) (wL_of (by decide)) hMs12 (by omega) (by omega) (rfl : (nI (sn S 0) - 1 : Int32) = nI (sn S 0) - 1) (show isW T tn (nxK T tn (nxK T tn (nxK T tn (nxK T tn tk)))) (am_SL 55) from (by assumption : isW T tn (nxK T tn (nxK T tn (nxK T tn (nxK T tn tk)))) (am_SL 7))) (by assumption)) (fun s17 es17 => ?_)
                have hSs17 : s17 801 = S := (es17.2.1.1 801 (by decide)).trans hSs12
                have hMs17 := es17.1
                have hEs17 := es17.2.2
                have hGs17 := hGs12.mf es17.2.1
                have t18 := (show tkP T tn (nxK T tn (nxK T tn (nxK T tn (nxK T tn (nxK T tn tk))))) 4 0 (sn S 0) by assumption).2.2.2
                refine g_pure 2 (i' := 53) (lv' := [some (vR 800), some (vI (nI (213 + 7 * (sn S 4)))), some (vI (nI (numK T tn (nxK T tn tk)))), some (vI (nI (numK T tn (nxK T tn (nxK T tn tk))))), some (vI (nI (numK T tn (nxK T tn (nxK T tn (nxK T tn tk)))))), some (vI (nI (numK T tn (nxK T tn (nxK T tn (nxK T tn (nxK T tn (nxK T tn tk)))))))), none, none]) (st' := [vI (nI (numK T tn (nxK T tn (nxK T tn (nxK T tn (nxK T tn (nxK T tn tk)))))))]) rfl ?_
                refine g_if1 (i' := 56) (P := 0 ≤ numK T tn (nxK T tn (nxK T tn (nxK T tn (nxK T tn (nxK T tn tk)))))) rfl rfl (g_geN (show nI (numK T tn (nxK T tn (nxK T tn (nxK T tn (nxK T tn (nxK T tn tk)))))) = nI (numK T tn (nxK T tn (nxK T tn (nxK T tn (nxK T tn (nxK T tn tk)))))) from (rfl : nI (numK T tn (nxK T tn (nxK T tn (nxK T tn (nxK T tn (nxK T tn tk)))))) = nI (numK T tn (nxK T tn (nxK T tn (nxK T tn (nxK T tn (nxK T tn tk)))))))) (show 0 = nI 0 from (show (0 : Int32) = nI 0 from rfl)) (by omega) (by omega)) (fun _ => ?_) (fun h19 => absurd (by omega) h19)
                refine g_pure 4 (i' := 60) (lv' := [some (vR 800), some (vI (nI (213 + 7 * (sn S 4)))), some (vI (nI (numK T tn (nxK T tn tk)))), some (vI (nI (numK T tn (nxK T tn (nxK T tn tk))))), some (vI (nI (numK T tn (nxK T tn (nxK T tn (nxK T tn tk)))))), some (vI (nI (numK T tn (nxK T tn (nxK T tn (nxK T tn (nxK T tn (nxK T tn tk)))))))), none, none]) (st' := [vR 800, vI 0, vS 56, vR 800]) rfl ?_
                refine g_cV1 rfl (args := [vR 800]) (rest := [vI 0, vS 56, vR 800]) rfl rfl rfl (s_199 (d := d + 4) hSs17) ?_
                refine g_pure 2 (i' := 63) (lv' := [some (vR 800), some (vI (nI (213 + 7 * (sn S 4)))), some (vI (nI (numK T tn (nxK T tn tk)))), some (vI (nI (numK T tn (nxK T tn (nxK T tn tk))))), some (vI (nI (numK T tn (nxK T tn (nxK T tn (nxK T tn tk)))))), some (vI (nI (numK T tn (nxK T tn (nxK T tn (nxK T tn (nxK T tn (nxK T tn tk)))))))), none, none]) (st' := [vI (S 9 - 1), vI 0, vS 56, vR 800]) rfl ?_
                refine gW_eq (lv' := [some (vR 800), some (vI (nI (213 + 7 * (sn S 4)))), some (vI (nI (numK T tn (nxK T tn tk)))), some (vI (nI (numK T tn (nxK T tn (nxK T tn tk))))), some (vI (nI (numK T tn (nxK T tn (nxK T tn (nxK T tn tk)))))), some (vI (nI (numK T tn (nxK T tn (nxK T tn (nxK T tn (nxK T tn (nxK T tn tk)))))))), none, none]) (st' := [vI (nI (sn S 9 - 1)), vI 0, vS 56, vR 800]) rfl (by rw [(show (S 9 - 1) = nI (sn S 9 - 1) from (g_sub (hI.c9) (show (1 : Int32) = nI 1 from rfl) (by omega)))]) rfl ?_
                by_cases h20 : isW T tn (nxK T tn (nxK T tn (nxK T tn (nxK T tn (nxK T tn (nxK T tn tk)))))) (am_SL 8)
                · by_cases h21 : tkP T tn (nxK T tn (nxK T tn (nxK T tn (nxK T tn (nxK T tn (nxK T tn (nxK T tn tk))))))) 4 0 (sn S 9)
                  · refine gW_eq (st' := [vI (nI (sn S 9 - 1)), vI (nI 0), vS 56, vR 800]) rfl (by rw [(show (0 : Int32) = nI 0 from rfl)]) rfl ?_
                    refine g_cV1E rfl (args := [vR 800, vS 56, vI (nI 0), vI (nI (sn S 9 - 1))]) (rest := []) rfl rfl rfl (s_212a (m := sn S 9) (d := d) (by decide) (wL_of (by decide)) hMs17 (by omega) (by omega) (show (nI (sn S 9 - 1) : Int32) = nI (sn S 9) - 1 from (g_sub (rfl : nI (sn S 9) = nI (sn S 9)) (show (1 : Int32) = nI 1 from rfl) (by omega)).symm) (show isW T tn (nxK T tn (nxK T tn (nxK T tn (nxK T tn (nxK T tn (nxK T tn tk)))))) (am_SL 56) from (by assumption : isW T tn (nxK T tn (nxK T tn (nxK T tn (nxK T tn (nxK T tn (nxK T tn tk)))))) (am_SL 8))) (by assumption)) (fun s22 es22 => ?_)
                    have hSs22 : s22 801 = S := (es22.2.1.1 801 (by decide)).trans hSs17
                    have hMs22 := es22.1
                    have hEs22 := es22.2.2
                    have hGs22 := hGs17.mf es22.2.1
                    have t23 := (show tkP T tn (nxK T tn (nxK T tn (nxK T tn (nxK T tn (nxK T tn (nxK T tn (nxK T tn tk))))))) 4 0 (sn S 9) by assumption).2.2.2
                    refine g_pure 2 (i' := 66) (lv' := [some (vR 800), some (vI (nI (213 + 7 * (sn S 4)))), some (vI (nI (numK T tn (nxK T tn tk)))), some (vI (nI (numK T tn (nxK T tn (nxK T tn tk))))), some (vI (nI (numK T tn (nxK T tn (nxK T tn (nxK T tn tk)))))), some (vI (nI (numK T tn (nxK T tn (nxK T tn (nxK T tn (nxK T tn (nxK T tn tk)))))))), some (vI (nI (numK T tn (nxK T tn (nxK T tn (nxK T tn (nxK T tn (nxK T tn (nxK T tn (nxK T tn tk)))))))))), none]) (st' := [vI (nI (numK T tn (nxK T tn (nxK T tn (nxK T tn (nxK T tn (nxK T tn (nxK T tn (nxK T tn tk)))))))))]) rfl ?_
                    refine g_if1 (i' := 69) (P := 0 ≤ numK T tn (nxK T tn (nxK T tn (nxK T tn (nxK T tn (nxK T tn (nxK T tn (nxK T tn tk)))))))) rfl rfl (g_geN (show nI (numK T tn (nxK T tn (nxK T tn (nxK T tn (nxK T tn (nxK T tn (nxK T tn (nxK T tn tk)))))))) = nI (numK T tn (nxK T tn (nxK T tn (nxK T tn (nxK T tn (nxK T tn (nxK T tn (nxK T tn tk)))))))) from (rfl : nI (numK T tn (nxK T tn (nxK T tn (nxK T tn (nxK T tn (nxK T tn (nxK T tn (nxK T tn tk)))))))) = nI (numK T tn (nxK T tn (nxK T tn (nxK T tn (nxK T tn (nxK T tn (nxK T tn (nxK T tn tk)))))))))) (show 0 = nI 0 from (show (0 : Int32) = nI 0 from rfl)) (by omega) (by omega)) (fun _ => ?_) (fun h24 => absurd (by omega) h24)
                    refine g_pure 4 (i' := 73) (lv' := [some (vR 800), some (vI (nI (213 + 7 * (sn S 4)))), some (vI (nI (numK T tn (nxK T tn tk)))), some (vI (nI (numK T tn (nxK T tn (nxK T tn tk))))), some (vI (nI (numK T tn (nxK T tn (nxK T tn (nxK T tn tk)))))), some (vI (nI (numK T tn (nxK T tn (nxK T tn (nxK T tn (nxK T tn (nxK T tn tk)))))))), some (vI (nI (numK T tn (nxK T tn (nxK T tn (nxK T tn (nxK T tn (nxK T tn (nxK T tn (nxK T tn tk)))))))))), none]) (st' := [vR 800, vI 0, vS 57, vR 800]) rfl ?_
                    refine g_cV1 rfl (args := [vR 800]) (rest := [vI 0, vS 57, vR 800]) rfl rfl rfl (s_199 (d := d + 4) hSs22) ?_
                    refine g_pure 2 (i' := 76) (lv' := [some (vR 800), some (vI (nI (213 + 7 * (sn S 4)))), some (vI (nI (numK T tn (nxK T tn tk)))), some (vI (nI (numK T tn (nxK T tn (nxK T tn tk))))), some (vI (nI (numK T tn (nxK T tn (nxK T tn (nxK T tn tk)))))), some (vI (nI (numK T tn (nxK T tn (nxK T tn (nxK T tn (nxK T tn (nxK T tn tk)))))))), some (vI (nI (numK T tn (nxK T tn (nxK T tn (nxK T tn (nxK T tn (nxK T tn (nxK T tn (nxK T tn tk)))))))))), none]) (st' := [vI (S 9 - 1), vI 0, vS 57, vR 800]) rfl ?_
                    refine gW_eq (lv' := [some (vR 800), some (vI (nI (213 + 7 * (sn S 4)))), some (vI (nI (numK T tn (nxK T tn tk)))), some (vI (nI (numK T tn (nxK T tn (nxK T tn tk))))), some (vI (nI (numK T tn (nxK T tn (nxK T tn (nxK T tn tk)))))), some (vI (nI (numK T tn (nxK T tn (nxK T tn (nxK T tn (nxK T tn (nxK T tn tk)))))))), some (vI (nI (numK T tn (nxK T tn (nxK T tn (nxK T tn (nxK T tn (nxK T tn (nxK T tn (nxK T tn tk)))))))))), none]) (st' := [vI (nI (sn S 9 - 1)), vI 0, vS 57, vR 800]) rfl (by rw [(show (S 9 - 1) = nI (sn S 9 - 1) from (g_sub (hI.c9) (show (1 : Int32) = nI 1 from rfl) (by omega)))]) rfl ?_
                    by_cases h25 : isW T tn (nxK T tn (nxK T tn (nxK T tn (nxK T tn (nxK T tn (nxK T tn (nxK T tn (nxK T tn tk)))))))) (am_SL 9)
                    · by_cases h26 : tkP T tn (nxK T tn (nxK T tn (nxK T tn (nxK T tn (nxK T tn (nxK T tn (nxK T tn (nxK T tn (nxK T tn tk))))))))) 4 0 (sn S 9)
                      · refine gW_eq (st' := [vI (nI (sn S 9 - 1)), vI (nI 0), vS 57, vR 800]) rfl (by rw [(show (0 : Int32) = nI 0 from rfl)]) rfl ?_
                        refine g_cV1E rfl (args := [vR 800, vS 57, vI (nI 0), vI (nI (sn S 9 - 1))]) (rest := []) rfl rfl rfl (s_212a (m := sn S 9) (d := d) (by decide) (wL_of (by decide)) hMs22 (by omega) (by omega) (show (nI (sn S 9 - 1) : Int32) = nI (sn S 9) - 1 from (g_sub (rfl : nI (sn S 9) = nI (sn S 9)) (show (1 : Int32) = nI 1 from rfl) (by omega)).symm) (show isW T tn (nxK T tn (nxK T tn (nxK T tn (nxK T tn (nxK T tn (nxK T tn (nxK T tn (nxK T tn tk)))))))) (am_SL 57) from (by assumption : isW T tn (nxK T tn (nxK T tn (nxK T tn (nxK T tn (nxK T tn (nxK T tn (nxK T tn (nxK T tn tk)))))))) (am_SL 9))) (by assumption)) (fun s27 es27 => ?_)
                        have hSs27 : s27 801 = S := (es27.2.1.1 801 (by decide)).trans hSs22
                        have hMs27 := es27.1
                        have hEs27 := es27.2.2
                        have hGs27 := hGs22.mf es27.2.1
                        have t28 := (show tkP T tn (nxK T tn (nxK T tn (nxK T tn (nxK T tn (nxK T tn (nxK T tn (nxK T tn (nxK T tn (nxK T tn tk))))))))) 4 0 (sn S 9) by assumption).2.2.2
                        refine g_pure 2 (i' := 79) (lv' := [some (vR 800), some (vI (nI (213 + 7 * (sn S 4)))), some (vI (nI (numK T tn (nxK T tn tk)))), some (vI (nI (numK T tn (nxK T tn (nxK T tn tk))))), some (vI (nI (numK T tn (nxK T tn (nxK T tn (nxK T tn tk)))))), some (vI (nI (numK T tn (nxK T tn (nxK T tn (nxK T tn (nxK T tn (nxK T tn tk)))))))), some (vI (nI (numK T tn (nxK T tn (nxK T tn (nxK T tn (nxK T tn (nxK T tn (nxK T tn (nxK T tn tk)))))))))), some (vI (nI (numK T tn (nxK T tn (nxK T tn (nxK T tn (nxK T tn (nxK T tn (nxK T tn (nxK T tn (nxK T tn (nxK T tn tk))))))))))))]) (st' := [vI (nI (numK T tn (nxK T tn (nxK T tn (nxK T tn (nxK T tn (nxK T tn (nxK T tn (nxK T tn (nxK T tn (nxK T tn tk)))))))))))]) rfl ?_
                        refine g_if1 (i' := 83) (P := numK T tn (nxK T tn (nxK T tn (nxK T tn (nxK T tn (nxK T tn (nxK T tn (nxK T tn (nxK T tn (nxK T tn tk))))))))) < 0) rfl rfl (g_ltN (show nI (numK T tn (nxK T tn (nxK T tn (nxK T tn (nxK T tn (nxK T tn (nxK T tn (nxK T tn (nxK T tn (nxK T tn tk)))))))))) = nI (numK T tn (nxK T tn (nxK T tn (nxK T tn (nxK T tn (nxK T tn (nxK T tn (nxK T tn (nxK T tn (nxK T tn tk)))))))))) from (rfl : nI (numK T tn (nxK T tn (nxK T tn (nxK T tn (nxK T tn (nxK T tn (nxK T tn (nxK T tn (nxK T tn (nxK T tn tk)))))))))) = nI (numK T tn (nxK T tn (nxK T tn (nxK T tn (nxK T tn (nxK T tn (nxK T tn (nxK T tn (nxK T tn (nxK T tn tk)))))))))))) (show 0 = nI 0 from (show (0 : Int32) = nI 0 from rfl)) (by omega) (by omega)) (fun h29 => absurd h29 (by omega)) (fun _ => ?_)
                        refine g_pure 2 (i' := 82) (lv' := [some (vR 800), some (vI (nI (213 + 7 * (sn S 4)))), some (vI (nI (numK T tn (nxK T tn tk)))), some (vI (nI (numK T tn (nxK T tn (nxK T tn tk))))), some (vI (nI (numK T tn (nxK T tn (nxK T tn (nxK T tn tk)))))), some (vI (nI (numK T tn (nxK T tn (nxK T tn (nxK T tn (nxK T tn (nxK T tn tk)))))))), some (vI (nI (numK T tn (nxK T tn (nxK T tn (nxK T tn (nxK T tn (nxK T tn (nxK T tn (nxK T tn tk)))))))))), some (vI (nI (numK T tn (nxK T tn (nxK T tn (nxK T tn (nxK T tn (nxK T tn (nxK T tn (nxK T tn (nxK T tn (nxK T tn tk))))))))))))]) (st' := [vI (nI (numK T tn (nxK T tn (nxK T tn (nxK T tn (nxK T tn (nxK T tn (nxK T tn (nxK T tn tk))))))))), vI (nI (numK T tn (nxK T tn (nxK T tn (nxK T tn (nxK T tn (nxK T tn (nxK T tn (nxK T tn (nxK T tn (nxK T tn tk)))))))))))]) rfl ?_
                        refine g_if2 (i' := 85) (P := ¬ numK T tn (nxK T tn (nxK T tn (nxK T tn (nxK T tn (nxK T tn (nxK T tn (nxK T tn (nxK T tn (nxK T tn tk))))))))) = numK T tn (nxK T tn (nxK T tn (nxK T tn (nxK T tn (nxK T tn (nxK T tn (nxK T tn tk)))))))) rfl rfl (g_neN (show nI (numK T tn (nxK T tn (nxK T tn (nxK T tn (nxK T tn (nxK T tn (nxK T tn (nxK T tn (nxK T tn (nxK T tn tk)))))))))) = nI (numK T tn (nxK T tn (nxK T tn (nxK T tn (nxK T tn (nxK T tn (nxK T tn (nxK T tn (nxK T tn (nxK T tn tk)))))))))) from (rfl : nI (numK T tn (nxK T tn (nxK T tn (nxK T tn (nxK T tn (nxK T tn (nxK T tn (nxK T tn (nxK T tn (nxK T tn tk)))))))))) = nI (numK T tn (nxK T tn (nxK T tn (nxK T tn (nxK T tn (nxK T tn (nxK T tn (nxK T tn (nxK T tn (nxK T tn tk)))))))))))) (show nI (numK T tn (nxK T tn (nxK T tn (nxK T tn (nxK T tn (nxK T tn (nxK T tn (nxK T tn tk)))))))) = nI (numK T tn (nxK T tn (nxK T tn (nxK T tn (nxK T tn (nxK T tn (nxK T tn (nxK T tn tk)))))))) from (rfl : nI (numK T tn (nxK T tn (nxK T tn (nxK T tn (nxK T tn (nxK T tn (nxK T tn (nxK T tn tk)))))))) = nI (numK T tn (nxK T tn (nxK T tn (nxK T tn (nxK T tn (nxK T tn (nxK T tn (nxK T tn tk)))))))))) (by omega) (by omega)) (fun h30 => ?_) (fun h30 => ?_)
                        · refine g_pure 6 (i' := 91) (lv' := [some (vR 800), some (vI (nI (213 + 7 * (sn S 4)))), some (vI (nI (numK T tn (nxK T tn tk)))), some (vI (nI (numK T tn (nxK T tn (nxK T tn tk))))), some (vI (nI (numK T tn (nxK T tn (nxK T tn (nxK T tn tk)))))), some (vI (nI (numK T tn (nxK T tn (nxK T tn (nxK T tn (nxK T tn (nxK T tn tk)))))))), some (vI (nI (numK T tn (nxK T tn (nxK T tn (nxK T tn (nxK T tn (nxK T tn (nxK T tn (nxK T tn tk)))))))))), some (vI (nI (numK T tn (nxK T tn (nxK T tn (nxK T tn (nxK T tn (nxK T tn (nxK T tn (nxK T tn (nxK T tn (nxK T tn tk))))))))))))]) (st' := [vI (nI (numK T tn (nxK T tn tk))), vI (nI (213 + 7 * (sn S 4)) + 0), vR 801]) rfl ?_
                          refine gW_eq (lv' := [some (vR 800), some (vI (nI (213 + 7 * (sn S 4)))), some (vI (nI (numK T tn (nxK T tn tk)))), some (vI (nI (numK T tn (nxK T tn (nxK T tn tk))))), some (vI (nI (numK T tn (nxK T tn (nxK T tn (nxK T tn tk)))))), some (vI (nI (numK T tn (nxK T tn (nxK T tn (nxK T tn (nxK T tn (nxK T tn tk)))))))), some (vI (nI (numK T tn (nxK T tn (nxK T tn (nxK T tn (nxK T tn (nxK T tn (nxK T tn (nxK T tn tk)))))))))), some (vI (nI (numK T tn (nxK T tn (nxK T tn (nxK T tn (nxK T tn (nxK T tn (nxK T tn (nxK T tn (nxK T tn (nxK T tn tk))))))))))))]) (st' := [vI (nI (numK T tn (nxK T tn tk))), vI (nI (213 + 7 * (sn S 4))), vR 801]) rfl (by rw [(show (nI (213 + 7 * (sn S 4)) + 0) = nI (213 + 7 * (sn S 4)) from ((g_add (rfl : nI (213 + 7 * (sn S 4)) = nI (213 + 7 * (sn S 4))) (show (0 : Int32) = nI 0 from rfl))).trans (congrArg nI (by omega)))]) rfl ?_
                          refine g_ast rfl (g_A (a := 801) (kd := 1) (n := 2407) rfl (by decide)) (by decide) (show nI (213 + 7 * (sn S 4)) = nI (213 + 7 * (sn S 4)) from (rfl : nI (213 + 7 * (sn S 4)) = nI (213 + 7 * (sn S 4)))) (by omega) ?_
                          refine g_setv (fun s31 es31 => ?_)
                          have hMs31 : MK T tn (nxK T tn (nxK T tn (nxK T tn (nxK T tn (nxK T tn (nxK T tn (nxK T tn (nxK T tn (nxK T tn (nxK T tn tk)))))))))) s31 := hMs27.eq (by rw [es31, mu_ne (by decide)]) (by rw [es31, mu_ne (by decide)])
                          have hEs31 : s31 800 11 = nI (spK T tn (nxK T tn (nxK T tn (nxK T tn (nxK T tn (nxK T tn (nxK T tn (nxK T tn (nxK T tn (nxK T tn tk)))))))))) := by rw [es31, mu_ne (by decide)]; exact hEs27
                          have hGs31 : FRm sg0 s31 := by rw [es31]; exact hGs27.m801 (by omega)
                          have hSs31 : s31 801 = upd S (213 + 7 * (sn S 4)) (nI (numK T tn (nxK T tn tk))) := by rw [es31, mu_row, hSs27]
                          refine g_pure 6 (i' := 98) (lv' := [some (vR 800), some (vI (nI (213 + 7 * (sn S 4)))), some (vI (nI (numK T tn (nxK T tn tk)))), some (vI (nI (numK T tn (nxK T tn (nxK T tn tk))))), some (vI (nI (numK T tn (nxK T tn (nxK T tn (nxK T tn tk)))))), some (vI (nI (numK T tn (nxK T tn (nxK T tn (nxK T tn (nxK T tn (nxK T tn tk)))))))), some (vI (nI (numK T tn (nxK T tn (nxK T tn (nxK T tn (nxK T tn (nxK T tn (nxK T tn (nxK T tn tk)))))))))), some (vI (nI (numK T tn (nxK T tn (nxK T tn (nxK T tn (nxK T tn (nxK T tn (nxK T tn (nxK T tn (nxK T tn (nxK T tn tk))))))))))))]) (st' := [vI (nI (numK T tn (nxK T tn (nxK T tn tk)))), vI (nI (213 + 7 * (sn S 4)) + 1), vR 801]) rfl ?_
                          refine gW_eq (lv' := [some (vR 800), some (vI (nI (213 + 7 * (sn S 4)))), some (vI (nI (numK T tn (nxK T tn tk)))), some (vI (nI (numK T tn (nxK T tn (nxK T tn tk))))), some (vI (nI (numK T tn (nxK T tn (nxK T tn (nxK T tn tk)))))), some (vI (nI (numK T tn (nxK T tn (nxK T tn (nxK T tn (nxK T tn (nxK T tn tk)))))))), some (vI (nI (numK T tn (nxK T tn (nxK T tn (nxK T tn (nxK T tn (nxK T tn (nxK T tn (nxK T tn tk)))))))))), some (vI (nI (numK T tn (nxK T tn (nxK T tn (nxK T tn (nxK T tn (nxK T tn (nxK T tn (nxK T tn (nxK T tn (nxK T tn tk))))))))))))]) (st' := [vI (nI (numK T tn (nxK T tn (nxK T tn tk)))), vI (nI (213 + 7 * (sn S 4) + 1)), vR 801]) rfl (by rw [(show (nI (213 + 7 * (sn S 4)) + 1) = nI (213 + 7 * (sn S 4) + 1) from ((g_add (rfl : nI (213 + 7 * (sn S 4)) = nI (213 + 7 * (sn S 4))) (show (1 : Int32) = nI 1 from rfl))).trans (congrArg nI (by omega)))]) rfl ?_
                          refine g_ast rfl (g_A (a := 801) (kd := 1) (n := 2407) rfl (by decide)) (by decide) (show nI (213 + 7 * (sn S 4) + 1) = nI (213 + 7 * (sn S 4) + 1) from (rfl : nI (213 + 7 * (sn S 4) + 1) = nI (213 + 7 * (sn S 4) + 1))) (by omega) ?_
                          refine g_setv (fun s32 es32 => ?_)
                          have hMs32 : MK T tn (nxK T tn (nxK T tn (nxK T tn (nxK T tn (nxK T tn (nxK T tn (nxK T tn (nxK T tn (nxK T tn (nxK T tn tk)))))))))) s32 := hMs31.eq (by rw [es32, mu_ne (by decide)]) (by rw [es32, mu_ne (by decide)])
                          have hEs32 : s32 800 11 = nI (spK T tn (nxK T tn (nxK T tn (nxK T tn (nxK T tn (nxK T tn (nxK T tn (nxK T tn (nxK T tn (nxK T tn tk)))))))))) := by rw [es32, mu_ne (by decide)]; exact hEs31
                          have hGs32 : FRm sg0 s32 := by rw [es32]; exact hGs31.m801 (by omega)
                          have hSs32 : s32 801 = upd (upd S (213 + 7 * (sn S 4)) (nI (numK T tn (nxK T tn tk)))) (213 + 7 * (sn S 4) + 1) (nI (numK T tn (nxK T tn (nxK T tn tk)))) := by rw [es32, mu_row, hSs31]
                          refine g_pure 6 (i' := 105) (lv' := [some (vR 800), some (vI (nI (213 + 7 * (sn S 4)))), some (vI (nI (numK T tn (nxK T tn tk)))), some (vI (nI (numK T tn (nxK T tn (nxK T tn tk))))), some (vI (nI (numK T tn (nxK T tn (nxK T tn (nxK T tn tk)))))), some (vI (nI (numK T tn (nxK T tn (nxK T tn (nxK T tn (nxK T tn (nxK T tn tk)))))))), some (vI (nI (numK T tn (nxK T tn (nxK T tn (nxK T tn (nxK T tn (nxK T tn (nxK T tn (nxK T tn tk)))))))))), some (vI (nI (numK T tn (nxK T tn (nxK T tn (nxK T tn (nxK T tn (nxK T tn (nxK T tn (nxK T tn (nxK T tn (nxK T tn tk))))))))))))]) (st' := [vI (nI (numK T tn (nxK T tn (nxK T tn (nxK T tn tk))))), vI (nI (213 + 7 * (sn S 4)) + 2), vR 801]) rfl ?_
                          refine gW_eq (lv' := [some (vR 800), some (vI (nI (213 + 7 * (sn S 4)))), some (vI (nI (numK T tn (nxK T tn tk)))), some (vI (nI (numK T tn (nxK T tn (nxK T tn tk))))), some (vI (nI (numK T tn (nxK T tn (nxK T tn (nxK T tn tk)))))), some (vI (nI (numK T tn (nxK T tn (nxK T tn (nxK T tn (nxK T tn (nxK T tn tk)))))))), some (vI (nI (numK T tn (nxK T tn (nxK T tn (nxK T tn (nxK T tn (nxK T tn (nxK T tn (nxK T tn tk)))))))))), some (vI (nI (numK T tn (nxK T tn (nxK T tn (nxK T tn (nxK T tn (nxK T tn (nxK T tn (nxK T tn (nxK T tn (nxK T tn tk))))))))))))]) (st' := [vI (nI (numK T tn (nxK T tn (nxK T tn (nxK T tn tk))))), vI (nI (213 + 7 * (sn S 4) + 2)), vR 801]) rfl (by rw [(show (nI (213 + 7 * (sn S 4)) + 2) = nI (213 + 7 * (sn S 4) + 2) from ((g_add (rfl : nI (213 + 7 * (sn S 4)) = nI (213 + 7 * (sn S 4))) (show (2 : Int32) = nI 2 from rfl))).trans (congrArg nI (by omega)))]) rfl ?_
                          refine g_ast rfl (g_A (a := 801) (kd := 1) (n := 2407) rfl (by decide)) (by decide) (show nI (213 + 7 * (sn S 4) + 2) = nI (213 + 7 * (sn S 4) + 2) from (rfl : nI (213 + 7 * (sn S 4) + 2) = nI (213 + 7 * (sn S 4) + 2))) (by omega) ?_
                          refine g_setv (fun s33 es33 => ?_)
                          have hMs33 : MK T tn (nxK T tn (nxK T tn (nxK T tn (nxK T tn (nxK T tn (nxK T tn (nxK T tn (nxK T tn (nxK T tn (nxK T tn tk)))))))))) s33 := hMs32.eq (by rw [es33, mu_ne (by decide)]) (by rw [es33, mu_ne (by decide)])
                          have hEs33 : s33 800 11 = nI (spK T tn (nxK T tn (nxK T tn (nxK T tn (nxK T tn (nxK T tn (nxK T tn (nxK T tn (nxK T tn (nxK T tn tk)))))))))) := by rw [es33, mu_ne (by decide)]; exact hEs32
                          have hGs33 : FRm sg0 s33 := by rw [es33]; exact hGs32.m801 (by omega)
                          have hSs33 : s33 801 = upd (upd (upd S (213 + 7 * (sn S 4)) (nI (numK T tn (nxK T tn tk)))) (213 + 7 * (sn S 4) + 1) (nI (numK T tn (nxK T tn (nxK T tn tk))))) (213 + 7 * (sn S 4) + 2) (nI (numK T tn (nxK T tn (nxK T tn (nxK T tn tk))))) := by rw [es33, mu_row, hSs32]
                          refine g_pure 6 (i' := 112) (lv' := [some (vR 800), some (vI (nI (213 + 7 * (sn S 4)))), some (vI (nI (numK T tn (nxK T tn tk)))), some (vI (nI (numK T tn (nxK T tn (nxK T tn tk))))), some (vI (nI (numK T tn (nxK T tn (nxK T tn (nxK T tn tk)))))), some (vI (nI (numK T tn (nxK T tn (nxK T tn (nxK T tn (nxK T tn (nxK T tn tk)))))))), some (vI (nI (numK T tn (nxK T tn (nxK T tn (nxK T tn (nxK T tn (nxK T tn (nxK T tn (nxK T tn tk)))))))))), some (vI (nI (numK T tn (nxK T tn (nxK T tn (nxK T tn (nxK T tn (nxK T tn (nxK T tn (nxK T tn (nxK T tn (nxK T tn tk))))))))))))]) (st' := [vI (nI (numK T tn (nxK T tn (nxK T tn (nxK T tn (nxK T tn (nxK T tn tk))))))), vI (nI (213 + 7 * (sn S 4)) + 3), vR 801]) rfl ?_
                          refine gW_eq (lv' := [some (vR 800), some (vI (nI (213 + 7 * (sn S 4)))), some (vI (nI (numK T tn (nxK T tn tk)))), some (vI (nI (numK T tn (nxK T tn (nxK T tn tk))))), some (vI (nI (numK T tn (nxK T tn (nxK T tn (nxK T tn tk)))))), some (vI (nI (numK T tn (nxK T tn (nxK T tn (nxK T tn (nxK T tn (nxK T tn tk)))))))), some (vI (nI (numK T tn (nxK T tn (nxK T tn (nxK T tn (nxK T tn (nxK T tn (nxK T tn (nxK T tn tk)))))))))), some (vI (nI (numK T tn (nxK T tn (nxK T tn (nxK T tn (nxK T tn (nxK T tn (nxK T tn (nxK T tn (nxK T tn (nxK T tn tk))))))))))))]) (st' := [vI (nI (numK T tn (nxK T tn (nxK T tn (nxK T tn (nxK T tn (nxK T tn tk))))))), vI (nI (213 + 7 * (sn S 4) + 3)), vR 801]) rfl (by rw [(show (nI (213 + 7 * (sn S 4)) + 3) = nI (213 + 7 * (sn S 4) + 3) from ((g_add (rfl : nI (213 + 7 * (sn S 4)) = nI (213 + 7 * (sn S 4))) (show (3 : Int32) = nI 3 from rfl))).trans (congrArg nI (by omega)))]) rfl ?_
                          refine g_ast rfl (g_A (a := 801) (kd := 1) (n := 2407) rfl (by decide)) (by decide) (show nI (213 + 7 * (sn S 4) + 3) = nI (213 + 7 * (sn S 4) + 3) from (rfl : nI (213 + 7 * (sn S 4) + 3) = nI (213 + 7 * (sn S 4) + 3))) (by omega) ?_
                          refine g_setv (fun s34 es34 => ?_)
                          have hMs34 : MK T tn (nxK T tn (nxK T tn (nxK T tn (nxK T tn (nxK T tn (nxK T tn (nxK T tn (nxK T tn (nxK T tn (nxK T tn tk)))))))))) s34 := hMs33.eq (by rw [es34, mu_ne (by decide)]) (by rw [es34, mu_ne (by decide)])
                          have hEs34 : s34 800 11 = nI (spK T tn (nxK T tn (nxK T tn (nxK T tn (nxK T tn (nxK T tn (nxK T tn (nxK T tn (nxK T tn (nxK T tn tk)))))))))) := by rw [es34, mu_ne (by decide)]; exact hEs33
                          have hGs34 : FRm sg0 s34 := by rw [es34]; exact hGs33.m801 (by omega)
                          have hSs34 : s34 801 = upd (upd (upd (upd S (213 + 7 * (sn S 4)) (nI (numK T tn (nxK T tn tk)))) (213 + 7 * (sn S 4) + 1) (nI (numK T tn (nxK T tn (nxK T tn tk))))) (213 + 7 * (sn S 4) + 2) (nI (numK T tn (nxK T tn (nxK T tn (nxK T tn tk)))))) (213 + 7 * (sn S 4) + 3) (nI (numK T tn (nxK T tn (nxK T tn (nxK T tn (nxK T tn (nxK T tn tk))))))) := by rw [es34, mu_row, hSs33]
                          refine g_pure 6 (i' := 119) (lv' := [some (vR 800), some (vI (nI (213 + 7 * (sn S 4)))), some (vI (nI (numK T tn (nxK T tn tk)))), some (vI (nI (numK T tn (nxK T tn (nxK T tn tk))))), some (vI (nI (numK T tn (nxK T tn (nxK T tn (nxK T tn tk)))))), some (vI (nI (numK T tn (nxK T tn (nxK T tn (nxK T tn (nxK T tn (nxK T tn tk)))))))), some (vI (nI (numK T tn (nxK T tn (nxK T tn (nxK T tn (nxK T tn (nxK T tn (nxK T tn (nxK T tn tk)))))))))), some (vI (nI (numK T tn (nxK T tn (nxK T tn (nxK T tn (nxK T tn (nxK T tn (nxK T tn (nxK T tn (nxK T tn (nxK T tn tk))))))))))))]) (st' := [vI (nI (numK T tn (nxK T tn (nxK T tn (nxK T tn (nxK T tn (nxK T tn (nxK T tn (nxK T tn tk))))))))), vI (nI (213 + 7 * (sn S 4)) + 4), vR 801]) rfl ?_
                          refine gW_eq (lv' := [some (vR 800), some (vI (nI (213 + 7 * (sn S 4)))), some (vI (nI (numK T tn (nxK T tn tk)))), some (vI (nI (numK T tn (nxK T tn (nxK T tn tk))))), some (vI (nI (numK T tn (nxK T tn (nxK T tn (nxK T tn tk)))))), some (vI (nI (numK T tn (nxK T tn (nxK T tn (nxK T tn (nxK T tn (nxK T tn tk)))))))), some (vI (nI (numK T tn (nxK T tn (nxK T tn (nxK T tn (nxK T tn (nxK T tn (nxK T tn (nxK T tn tk)))))))))), some (vI (nI (numK T tn (nxK T tn (nxK T tn (nxK T tn (nxK T tn (nxK T tn (nxK T tn (nxK T tn (nxK T tn (nxK T tn tk))))))))))))]) (st' := [vI (nI (numK T tn (nxK T tn (nxK T tn (nxK T tn (nxK T tn (nxK T tn (nxK T tn (nxK T tn tk))))))))), vI (nI (213 + 7 * (sn S 4) + 4)), vR 801]) rfl (by rw [(show (nI (213 + 7 * (sn S 4)) + 4) = nI (213 + 7 * (sn S 4) + 4) from ((g_add (rfl : nI (213 + 7 * (sn S 4)) = nI (213 + 7 * (sn S 4))) (show (4 : Int32) = nI 4 from rfl))).trans (congrArg nI (by omega)))]) rfl ?_
                          refine g_ast rfl (g_A (a := 801) (kd := 1) (n := 2407) rfl (by decide)) (by decide) (show nI (213 + 7 * (sn S 4) + 4) = nI (213 + 7 * (sn S 4) + 4) from (rfl : nI (213 + 7 * (sn S 4) + 4) = nI (213 + 7 * (sn S 4) + 4))) (by omega) ?_
                          refine g_setv (fun s35 es35 => ?_)
                          have hMs35 : MK T tn (nxK T tn (nxK T tn (nxK T tn (nxK T tn (nxK T tn (nxK T tn (nxK T tn (nxK T tn (nxK T tn (nxK T tn tk)))))))))) s35 := hMs34.eq (by rw [es35, mu_ne (by decide)]) (by rw [es35, mu_ne (by decide)])
                          have hEs35 : s35 800 11 = nI (spK T tn (nxK T tn (nxK T tn (nxK T tn (nxK T tn (nxK T tn (nxK T tn (nxK T tn (nxK T tn (nxK T tn tk)))))))))) := by rw [es35, mu_ne (by decide)]; exact hEs34
                          have hGs35 : FRm sg0 s35 := by rw [es35]; exact hGs34.m801 (by omega)
                          have hSs35 : s35 801 = upd (upd (upd (upd (upd S (213 + 7 * (sn S 4)) (nI (numK T tn (nxK T tn tk)))) (213 + 7 * (sn S 4) + 1) (nI (numK T tn (nxK T tn (nxK T tn tk))))) (213 + 7 * (sn S 4) + 2) (nI (numK T tn (nxK T tn (nxK T tn (nxK T tn tk)))))) (213 + 7 * (sn S 4) + 3) (nI (numK T tn (nxK T tn (nxK T tn (nxK T tn (nxK T tn (nxK T tn tk)))))))) (213 + 7 * (sn S 4) + 4) (nI (numK T tn (nxK T tn (nxK T tn (nxK T tn (nxK T tn (nxK T tn (nxK T tn (nxK T tn tk))))))))) := by rw [es35, mu_row, hSs34]
                          refine g_pure 6 (i' := 126) (lv' := [some (vR 800), some (vI (nI (213 + 7 * (sn S 4)))), some (vI (nI (numK T tn (nxK T tn tk)))), some (vI (nI (numK T tn (nxK T tn (nxK T tn tk))))), some (vI (nI (numK T tn (nxK T tn (nxK T tn (nxK T tn tk)))))), some (vI (nI (numK T tn (nxK T tn (nxK T tn (nxK T tn (nxK T tn (nxK T tn tk)))))))), some (vI (nI (numK T tn (nxK T tn (nxK T tn (nxK T tn (nxK T tn (nxK T tn (nxK T tn (nxK T tn tk)))))))))), some (vI (nI (numK T tn (nxK T tn (nxK T tn (nxK T tn (nxK T tn (nxK T tn (nxK T tn (nxK T tn (nxK T tn (nxK T tn tk))))))))))))]) (st' := [vI (nI (numK T tn (nxK T tn (nxK T tn (nxK T tn (nxK T tn (nxK T tn (nxK T tn (nxK T tn (nxK T tn (nxK T tn tk))))))))))), vI (nI (213 + 7 * (sn S 4)) + 5), vR 801]) rfl ?_
                          refine gW_eq (lv' := [some (vR 800), some (vI (nI (213 + 7 * (sn S 4)))), some (vI (nI (numK T tn (nxK T tn tk)))), some (vI (nI (numK T tn (nxK T tn (nxK T tn tk))))), some (vI (nI (numK T tn (nxK T tn (nxK T tn (nxK T tn tk)))))), some (vI (nI (numK T tn (nxK T tn (nxK T tn (nxK T tn (nxK T tn (nxK T tn tk)))))))), some (vI (nI (numK T tn (nxK T tn (nxK T tn (nxK T tn (nxK T tn (nxK T tn (nxK T tn (nxK T tn tk)))))))))), some (vI (nI (numK T tn (nxK T tn (nxK T tn (nxK T tn (nxK T tn (nxK T tn (nxK T tn (nxK T tn (nxK T tn (nxK T tn tk))))))))))))]) (st' := [vI (nI (numK T tn (nxK T tn (nxK T tn (nxK T tn (nxK T tn (nxK T tn (nxK T tn (nxK T tn (nxK T tn (nxK T tn tk))))))))))), vI (nI (213 + 7 * (sn S 4) + 5)), vR 801]) rfl (by rw [(show (nI (213 + 7 * (sn S 4)) + 5) = nI (213 + 7 * (sn S 4) + 5) from ((g_add (rfl : nI (213 + 7 * (sn S 4)) = nI (213 + 7 * (sn S 4))) (show (5 : Int32) = nI 5 from rfl))).trans (congrArg nI (by omega)))]) rfl ?_
                          refine g_ast rfl (g_A (a := 801) (kd := 1) (n := 2407) rfl (by decide)) (by decide) (show nI (213 + 7 * (sn S 4) + 5) = nI (213 + 7 * (sn S 4) + 5) from (rfl : nI (213 + 7 * (sn S 4) + 5) = nI (213 + 7 * (sn S 4) + 5))) (by omega) ?_
                          refine g_setv (fun s36 es36 => ?_)
                          have hMs36 : MK T tn (nxK T tn (nxK T tn (nxK T tn (nxK T tn (nxK T tn (nxK T tn (nxK T tn (nxK T tn (nxK T tn (nxK T tn tk)))))))))) s36 := hMs35.eq (by rw [es36, mu_ne (by decide)]) (by rw [es36, mu_ne (by decide)])
                          have hEs36 : s36 800 11 = nI (spK T tn (nxK T tn (nxK T tn (nxK T tn (nxK T tn (nxK T tn (nxK T tn (nxK T tn (nxK T tn (nxK T tn tk)))))))))) := by rw [es36, mu_ne (by decide)]; exact hEs35
                          have hGs36 : FRm sg0 s36 := by rw [es36]; exact hGs35.m801 (by omega)
                          have hSs36 : s36 801 = upd (upd (upd (upd (upd (upd S (213 + 7 * (sn S 4)) (nI (numK T tn (nxK T tn tk)))) (213 + 7 * (sn S 4) + 1) (nI (numK T tn (nxK T tn (nxK T tn tk))))) (213 + 7 * (sn S 4) + 2) (nI (numK T tn (nxK T tn (nxK T tn (nxK T tn tk)))))) (213 + 7 * (sn S 4) + 3) (nI (numK T tn (nxK T tn (nxK T tn (nxK T tn (nxK T tn (nxK T tn tk)))))))) (213 + 7 * (sn S 4) + 4) (nI (numK T tn (nxK T tn (nxK T tn (nxK T tn (nxK T tn (nxK T tn (nxK T tn (nxK T tn tk)))))))))) (213 + 7 * (sn S 4) + 5) (nI (numK T tn (nxK T tn (nxK T tn (nxK T tn (nxK T tn (nxK T tn (nxK T tn (nxK T tn (nxK T tn (nxK T tn tk))))))))))) := by rw [es36, mu_row, hSs35]
                          refine g_pure 6 (i' := 133) (lv' := [some (vR 800), some (vI (nI (213 + 7 * (sn S 4)))), some (vI (nI (numK T tn (nxK T tn tk)))), some (vI (nI (numK T tn (nxK T tn (nxK T tn tk))))), some (vI (nI (numK T tn (nxK T tn (nxK T tn (nxK T tn tk)))))), some (vI (nI (numK T tn (nxK T tn (nxK T tn (nxK T tn (nxK T tn (nxK T tn tk)))))))), some (vI (nI (numK T tn (nxK T tn (nxK T tn (nxK T tn (nxK T tn (nxK T tn (nxK T tn (nxK T tn tk)))))))))), some (vI (nI (numK T tn (nxK T tn (nxK T tn (nxK T tn (nxK T tn (nxK T tn (nxK T tn (nxK T tn (nxK T tn (nxK T tn tk))))))))))))]) (st' := [vI 0, vI (nI (213 + 7 * (sn S 4)) + 6), vR 801]) rfl ?_
                          refine gW_eq (lv' := [some (vR 800), some (vI (nI (213 + 7 * (sn S 4)))), some (vI (nI (numK T tn (nxK T tn tk)))), some (vI (nI (numK T tn (nxK T tn (nxK T tn tk))))), some (vI (nI (numK T tn (nxK T tn (nxK T tn (nxK T tn tk)))))), some (vI (nI (numK T tn (nxK T tn (nxK T tn (nxK T tn (nxK T tn (nxK T tn tk)))))))), some (vI (nI (numK T tn (nxK T tn (nxK T tn (nxK T tn (nxK T tn (nxK T tn (nxK T tn (nxK T tn tk)))))))))), some (vI (nI (numK T tn (nxK T tn (nxK T tn (nxK T tn (nxK T tn (nxK T tn (nxK T tn (nxK T tn (nxK T tn (nxK T tn tk))))))))))))]) (st' := [vI 0, vI (nI (213 + 7 * (sn S 4) + 6)), vR 801]) rfl (by rw [(show (nI (213 + 7 * (sn S 4)) + 6) = nI (213 + 7 * (sn S 4) + 6) from ((g_add (rfl : nI (213 + 7 * (sn S 4)) = nI (213 + 7 * (sn S 4))) (show (6 : Int32) = nI 6 from rfl))).trans (congrArg nI (by omega)))]) rfl ?_
                          refine g_ast rfl (g_A (a := 801) (kd := 1) (n := 2407) rfl (by decide)) (by decide) (show nI (213 + 7 * (sn S 4) + 6) = nI (213 + 7 * (sn S 4) + 6) from (rfl : nI (213 + 7 * (sn S 4) + 6) = nI (213 + 7 * (sn S 4) + 6))) (by omega) ?_
                          refine g_setv (fun s37 es37 => ?_)
                          have hMs37 : MK T tn (nxK T tn (nxK T tn (nxK T tn (nxK T tn (nxK T tn (nxK T tn (nxK T tn (nxK T tn (nxK T tn (nxK T tn tk)))))))))) s37 := hMs36.eq (by rw [es37, mu_ne (by decide)]) (by rw [es37, mu_ne (by decide)])
                          have hEs37 : s37 800 11 = nI (spK T tn (nxK T tn (nxK T tn (nxK T tn (nxK T tn (nxK T tn (nxK T tn (nxK T tn (nxK T tn (nxK T tn tk)))))))))) := by rw [es37, mu_ne (by decide)]; exact hEs36
                          have hGs37 : FRm sg0 s37 := by rw [es37]; exact hGs36.m801 (by omega)
                          have hSs37 : s37 801 = upd (upd (upd (upd (upd (upd (upd S (213 + 7 * (sn S 4)) (nI (numK T tn (nxK T tn tk)))) (213 + 7 * (sn S 4) + 1) (nI (numK T tn (nxK T tn (nxK T tn tk))))) (213 + 7 * (sn S 4) + 2) (nI (numK T tn (nxK T tn (nxK T tn (nxK T tn tk)))))) (213 + 7 * (sn S 4) + 3) (nI (numK T tn (nxK T tn (nxK T tn (nxK T tn (nxK T tn (nxK T tn tk)))))))) (213 + 7 * (sn S 4) + 4) (nI (numK T tn (nxK T tn (nxK T tn (nxK T tn (nxK T tn (nxK T tn (nxK T tn (nxK T tn tk)))))))))) (213 + 7 * (sn S 4) + 5) (nI (numK T tn (nxK T tn (nxK T tn (nxK T tn (nxK T tn (nxK T tn (nxK T tn (nxK T tn (nxK T tn (nxK T tn tk)))))))))))) (213 + 7 * (sn S 4) + 6) 0 := by rw [es37, mu_row, hSs36]
                          refine g_pure 4 (i' := 138) (lv' := [some (vR 800), some (vI (nI (213 + 7 * (sn S 4)))), some (vI (nI (numK T tn (nxK T tn tk)))), some (vI (nI (numK T tn (nxK T tn (nxK T tn tk))))), some (vI (nI (numK T tn (nxK T tn (nxK T tn (nxK T tn tk)))))), some (vI (nI (numK T tn (nxK T tn (nxK T tn (nxK T tn (nxK T tn (nxK T tn tk)))))))), some (vI (nI (numK T tn (nxK T tn (nxK T tn (nxK T tn (nxK T tn (nxK T tn (nxK T tn (nxK T tn tk)))))))))), some (vI (nI (numK T tn (nxK T tn (nxK T tn (nxK T tn (nxK T tn (nxK T tn (nxK T tn (nxK T tn (nxK T tn (nxK T tn tk))))))))))))]) (st' := [vI 4, vR 801, vI 4, vR 801]) rfl ?_
                          refine g_ald rfl (g_A (a := 801) (kd := 1) (n := 2407) rfl (by decide)) (by decide) (show 4 = nI 4 from (show (4 : Int32) = nI 4 from rfl)) (by decide) (show _ = S 4 from ((((((((congrFun hSs37 4)).trans (upd_ne (by omega))).trans (upd_ne (by omega))).trans (upd_ne (by omega))).trans (upd_ne (by omega))).trans (upd_ne (by omega))).trans (upd_ne (by omega))).trans (upd_ne (by omega))) ?_
                          refine g_pure 2 (i' := 141) (lv' := [some (vR 800), some (vI (nI (213 + 7 * (sn S 4)))), some (vI (nI (numK T tn (nxK T tn tk)))), some (vI (nI (numK T tn (nxK T tn (nxK T tn tk))))), some (vI (nI (numK T tn (nxK T tn (nxK T tn (nxK T tn tk)))))), some (vI (nI (numK T tn (nxK T tn (nxK T tn (nxK T tn (nxK T tn (nxK T tn tk)))))))), some (vI (nI (numK T tn (nxK T tn (nxK T tn (nxK T tn (nxK T tn (nxK T tn (nxK T tn (nxK T tn tk)))))))))), some (vI (nI (numK T tn (nxK T tn (nxK T tn (nxK T tn (nxK T tn (nxK T tn (nxK T tn (nxK T tn (nxK T tn (nxK T tn tk))))))))))))]) (st' := [vI (S 4 + 1), vI 4, vR 801]) rfl ?_
                          refine gW_eq (lv' := [some (vR 800), some (vI (nI (213 + 7 * (sn S 4)))), some (vI (nI (numK T tn (nxK T tn tk)))), some (vI (nI (numK T tn (nxK T tn (nxK T tn tk))))), some (vI (nI (numK T tn (nxK T tn (nxK T tn (nxK T tn tk)))))), some (vI (nI (numK T tn (nxK T tn (nxK T tn (nxK T tn (nxK T tn (nxK T tn tk)))))))), some (vI (nI (numK T tn (nxK T tn (nxK T tn (nxK T tn (nxK T tn (nxK T tn (nxK T tn (nxK T tn tk)))))))))), some (vI (nI (numK T tn (nxK T tn (nxK T tn (nxK T tn (nxK T tn (nxK T tn (nxK T tn (nxK T tn (nxK T tn (nxK T tn tk))))))))))))]) (st' := [vI (nI (sn S 4 + 1)), vI 4, vR 801]) rfl (by rw [(show (S 4 + 1) = nI (sn S 4 + 1) from ((g_add (hI.c4) (show (1 : Int32) = nI 1 from rfl))).trans (congrArg nI (by omega)))]) rfl ?_
                          refine g_ast rfl (g_A (a := 801) (kd := 1) (n := 2407) rfl (by decide)) (by decide) (show 4 = nI 4 from (show (4 : Int32) = nI 4 from rfl)) (by decide) ?_
                          refine g_setv (fun s38 es38 => ?_)
                          have hMs38 : MK T tn (nxK T tn (nxK T tn (nxK T tn (nxK T tn (nxK T tn (nxK T tn (nxK T tn (nxK T tn (nxK T tn (nxK T tn tk)))))))))) s38 := hMs37.eq (by rw [es38, mu_ne (by decide)]) (by rw [es38, mu_ne (by decide)])
                          have hEs38 : s38 800 11 = nI (spK T tn (nxK T tn (nxK T tn (nxK T tn (nxK T tn (nxK T tn (nxK T tn (nxK T tn (nxK T tn (nxK T tn tk)))))))))) := by rw [es38, mu_ne (by decide)]; exact hEs37
                          have hGs38 : FRm sg0 s38 := by rw [es38]; exact hGs37.m801 (by omega)
                          have hSs38 : s38 801 = upd (upd (upd (upd (upd (upd (upd (upd S (213 + 7 * (sn S 4)) (nI (numK T tn (nxK T tn tk)))) (213 + 7 * (sn S 4) + 1) (nI (numK T tn (nxK T tn (nxK T tn tk))))) (213 + 7 * (sn S 4) + 2) (nI (numK T tn (nxK T tn (nxK T tn (nxK T tn tk)))))) (213 + 7 * (sn S 4) + 3) (nI (numK T tn (nxK T tn (nxK T tn (nxK T tn (nxK T tn (nxK T tn tk)))))))) (213 + 7 * (sn S 4) + 4) (nI (numK T tn (nxK T tn (nxK T tn (nxK T tn (nxK T tn (nxK T tn (nxK T tn (nxK T tn tk)))))))))) (213 + 7 * (sn S 4) + 5) (nI (numK T tn (nxK T tn (nxK T tn (nxK T tn (nxK T tn (nxK T tn (nxK T tn (nxK T tn (nxK T tn (nxK T tn tk)))))))))))) (213 + 7 * (sn S 4) + 6) 0) 4 (nI (sn S 4 + 1)) := by rw [es38, mu_row, hSs37]
                          refine g_pure 1 (i' := 143) (lv' := [some (vR 800), some (vI (nI (213 + 7 * (sn S 4)))), some (vI (nI (numK T tn (nxK T tn tk)))), some (vI (nI (numK T tn (nxK T tn (nxK T tn tk))))), some (vI (nI (numK T tn (nxK T tn (nxK T tn (nxK T tn tk)))))), some (vI (nI (numK T tn (nxK T tn (nxK T tn (nxK T tn (nxK T tn (nxK T tn tk)))))))), some (vI (nI (numK T tn (nxK T tn (nxK T tn (nxK T tn (nxK T tn (nxK T tn (nxK T tn (nxK T tn tk)))))))))), some (vI (nI (numK T tn (nxK T tn (nxK T tn (nxK T tn (nxK T tn (nxK T tn (nxK T tn (nxK T tn (nxK T tn (nxK T tn tk))))))))))))]) (st' := [vI 1]) rfl ?_
                          refine g_bret rfl g_nar1 ?_
                          exact o1 h1 h2 s3 es3 h6 s7 es7 h10 h11 s12 es12 h15 h16 s17 es17 h20 h21 s22 es22 h25 h26 s27 es27 h30 s31 es31 s32 es32 s33 es33 s34 es34 s35 es35 s36 es36 s37 es37 s38 es38 hMs38 hGs38 hEs38 hSs38
                        · have h30 := Classical.not_not.mp h30
                          refine g_pure 1 (i' := 84) (lv' := [some (vR 800), some (vI (nI (213 + 7 * (sn S 4)))), some (vI (nI (numK T tn (nxK T tn tk)))), some (vI (nI (numK T tn (nxK T tn (nxK T tn tk))))), some (vI (nI (numK T tn (nxK T tn (nxK T tn (nxK T tn tk)))))), some (vI (nI (numK T tn (nxK T tn (nxK T tn (nxK T tn (nxK T tn (nxK T tn tk)))))))), some (vI (nI (numK T tn (nxK T tn (nxK T tn (nxK T tn (nxK T tn (nxK T tn (nxK T tn (nxK T tn tk)))))))))), some (vI (nI (numK T tn (nxK T tn (nxK T tn (nxK T tn (nxK T tn (nxK T tn (nxK T tn (nxK T tn (nxK T tn (nxK T tn tk))))))))))))]) (st' := [vI 0]) rfl ?_
                          refine g_bret rfl g_nar0 ?_
                          exact o2 h1 h2 s3 es3 h6 s7 es7 h10 h11 s12 es12 h15 h16 s17 es17 h20 h21 s22 es22 h25 h26 s27 es27 h30 hMs27 hGs27 hEs27 hSs27
                      · refine gW_eq (st' := [vI (nI (sn S 9 - 1)), vI (nI 0), vS 57, vR 800]) rfl (by rw [(show (0 : Int32) = nI 0 from rfl)]) rfl ?_
                        refine g_cV1E rfl (args := [vR 800, vS 57, vI (nI 0), vI (nI (sn S 9 - 1))]) (rest := []) rfl rfl rfl (s_212b (m := sn S 9) (d := d) (by decide) (wL_of (by decide)) hMs22 (by omega) (by omega) (show (nI (sn S 9 - 1) : Int32) = nI (sn S 9) - 1 from (g_sub (rfl : nI (sn S 9) = nI (sn S 9)) (show (1 : Int32) = nI 1 from rfl) (by omega)).symm) (show isW T tn (nxK T tn (nxK T tn (nxK T tn (nxK T tn (nxK T tn (nxK T tn (nxK T tn (nxK T tn tk)))))))) (am_SL 57) from (by assumption : isW T tn (nxK T tn (nxK T tn (nxK T tn (nxK T tn (nxK T tn (nxK T tn (nxK T tn (nxK T tn tk)))))))) (am_SL 9))) (by assumption)) (fun s39 es39 => ?_)
                        have hSs39 : s39 801 = S := (es39.1.1 801 (by decide)).trans hSs22
                        have hEs39 := es39.2
                        have hGs39 := hGs22.mf es39.1
                        refine g_pure 2 (i' := 79) (lv' := [some (vR 800), some (vI (nI (213 + 7 * (sn S 4)))), some (vI (nI (numK T tn (nxK T tn tk)))), some (vI (nI (numK T tn (nxK T tn (nxK T tn tk))))), some (vI (nI (numK T tn (nxK T tn (nxK T tn (nxK T tn tk)))))), some (vI (nI (numK T tn (nxK T tn (nxK T tn (nxK T tn (nxK T tn (nxK T tn tk)))))))), some (vI (nI (numK T tn (nxK T tn (nxK T tn (nxK T tn (nxK T tn (nxK T tn (nxK T tn (nxK T tn tk)))))))))), some (vI (-1))]) (st' := [vI (-1)]) rfl ?_
                        refine g_if1 (i' := 83) (P := ((-1) : Int32) < 0) rfl rfl Iff.rfl (fun _ => ?_) (fun h40 => absurd (by decide) h40)
                        refine g_pure 1 (i' := 84) (lv' := [some (vR 800), some (vI (nI (213 + 7 * (sn S 4)))), some (vI (nI (numK T tn (nxK T tn tk)))), some (vI (nI (numK T tn (nxK T tn (nxK T tn tk))))), some (vI (nI (numK T tn (nxK T tn (nxK T tn (nxK T tn tk)))))), some (vI (nI (numK T tn (nxK T tn (nxK T tn (nxK T tn (nxK T tn (nxK T tn tk)))))))), some (vI (nI (numK T tn (nxK T tn (nxK T tn (nxK T tn (nxK T tn (nxK T tn (nxK T tn (nxK T tn tk)))))))))), some (vI (-1))]) (st' := [vI 0]) rfl ?_
                        refine g_bret rfl g_nar0 ?_
                        exact o3 h1 h2 s3 es3 h6 s7 es7 h10 h11 s12 es12 h15 h16 s17 es17 h20 h21 s22 es22 h25 h26 s39 es39 hGs39 hEs39 hSs39
                    · refine gW_eq (st' := [vI (nI (sn S 9 - 1)), vI (nI 0), vS 57, vR 800]) rfl (by rw [(show (0 : Int32) = nI 0 from rfl)]) rfl ?_
                      refine g_cV1E rfl (args := [vR 800, vS 57, vI (nI 0), vI (nI (sn S 9 - 1))]) (rest := []) rfl rfl rfl (s_212c (d := d) (by decide) (wL_of (by decide)) hMs22 (show ¬ isW T tn (nxK T tn (nxK T tn (nxK T tn (nxK T tn (nxK T tn (nxK T tn (nxK T tn (nxK T tn tk)))))))) (am_SL 57) from (by assumption : ¬ isW T tn (nxK T tn (nxK T tn (nxK T tn (nxK T tn (nxK T tn (nxK T tn (nxK T tn (nxK T tn tk)))))))) (am_SL 9)))) (fun s41 es41 => ?_)
                      have hSs41 : s41 801 = S := (es41.1.1 801 (by decide)).trans hSs22
                      have hEs41 := es41.2
                      have hGs41 := hGs22.mf es41.1
                      refine g_pure 2 (i' := 79) (lv' := [some (vR 800), some (vI (nI (213 + 7 * (sn S 4)))), some (vI (nI (numK T tn (nxK T tn tk)))), some (vI (nI (numK T tn (nxK T tn (nxK T tn tk))))), some (vI (nI (numK T tn (nxK T tn (nxK T tn (nxK T tn tk)))))), some (vI (nI (numK T tn (nxK T tn (nxK T tn (nxK T tn (nxK T tn (nxK T tn tk)))))))), some (vI (nI (numK T tn (nxK T tn (nxK T tn (nxK T tn (nxK T tn (nxK T tn (nxK T tn (nxK T tn tk)))))))))), some (vI (-1))]) (st' := [vI (-1)]) rfl ?_
                      refine g_if1 (i' := 83) (P := ((-1) : Int32) < 0) rfl rfl Iff.rfl (fun _ => ?_) (fun h42 => absurd (by decide) h42)
                      refine g_pure 1 (i' := 84) (lv' := [some (vR 800), some (vI (nI (213 + 7 * (sn S 4)))), some (vI (nI (numK T tn (nxK T tn tk)))), some (vI (nI (numK T tn (nxK T tn (nxK T tn tk))))), some (vI (nI (numK T tn (nxK T tn (nxK T tn (nxK T tn tk)))))), some (vI (nI (numK T tn (nxK T tn (nxK T tn (nxK T tn (nxK T tn (nxK T tn tk)))))))), some (vI (nI (numK T tn (nxK T tn (nxK T tn (nxK T tn (nxK T tn (nxK T tn (nxK T tn (nxK T tn tk)))))))))), some (vI (-1))]) (st' := [vI 0]) rfl ?_
                      refine g_bret rfl g_nar0 ?_
                      exact o4 h1 h2 s3 es3 h6 s7 es7 h10 h11 s12 es12 h15 h16 s17 es17 h20 h21 s22 es22 h25 s41 es41 hGs41 hEs41 hSs41
                  · refine gW_eq (st' := [vI (nI (sn S 9 - 1)), vI (nI 0), vS 56, vR 800]) rfl (by rw [(show (0 : Int32) = nI 0 from rfl)]) rfl ?_
                    refine g_cV1E rfl (args := [vR 800, vS 56, vI (nI 0), vI (nI (sn S 9 - 1))]) (rest := []) rfl rfl rfl (s_212b (m := sn S 9) (d := d) (by decide) (wL_of (by decide)) hMs17 (by omega) (by omega) (show (nI (sn S 9 - 1) : Int32) = nI (sn S 9) - 1 from (g_sub (rfl : nI (sn S 9) = nI (sn S 9)) (show (1 : Int32) = nI 1 from rfl) (by omega)).symm) (show isW T tn (nxK T tn (nxK T tn (nxK T tn (nxK T tn (nxK T tn (nxK T tn tk)))))) (am_SL 56) from (by assumption : isW T tn (nxK T tn (nxK T tn (nxK T tn (nxK T tn (nxK T tn (nxK T tn tk)))))) (am_SL 8))) (by assumption)) (fun s43 es43 => ?_)
                    have hSs43 : s43 801 = S := (es43.1.1 801 (by decide)).trans hSs17
                    have hEs43 := es43.2
                    have hGs43 := hGs17.mf es43.1
                    refine g_pure 2 (i' := 66) (lv' := [some (vR 800), some (vI (nI (213 + 7 * (sn S 4)))), some (vI (nI (numK T tn (nxK T tn tk)))), some (vI (nI (numK T tn (nxK T tn (nxK T tn tk))))), some (vI (nI (numK T tn (nxK T tn (nxK T tn (nxK T tn tk)))))), some (vI (nI (numK T tn (nxK T tn (nxK T tn (nxK T tn (nxK T tn (nxK T tn tk)))))))), some (vI (-1)), none]) (st' := [vI (-1)]) rfl ?_
                    refine g_if1 (i' := 69) (P := 0 ≤ ((-1) : Int32)) rfl rfl Iff.rfl (fun h44 => absurd h44 (by decide)) (fun _ => ?_)
                    refine g_pure 4 (i' := 79) (lv' := [some (vR 800), some (vI (nI (213 + 7 * (sn S 4)))), some (vI (nI (numK T tn (nxK T tn tk)))), some (vI (nI (numK T tn (nxK T tn (nxK T tn tk))))), some (vI (nI (numK T tn (nxK T tn (nxK T tn (nxK T tn tk)))))), some (vI (nI (numK T tn (nxK T tn (nxK T tn (nxK T tn (nxK T tn (nxK T tn tk)))))))), some (vI (-1)), some (vI (-1))]) (st' := [vI (-1)]) rfl ?_
                    refine g_if1 (i' := 83) (P := ((-1) : Int32) < 0) rfl rfl Iff.rfl (fun _ => ?_) (fun h45 => absurd (by decide) h45)
                    refine g_pure 1 (i' := 84) (lv' := [some (vR 800), some (vI (nI (213 + 7 * (sn S 4)))), some (vI (nI (numK T tn (nxK T tn tk)))), some (vI (nI (numK T tn (nxK T tn (nxK T tn tk))))), some (vI (nI (numK T tn (nxK T tn (nxK T tn (nxK T tn tk)))))), some (vI (nI (numK T tn (nxK T tn (nxK T tn (nxK T tn (nxK T tn (nxK T tn tk)))))))), some (vI (-1)), some (vI (-1))]) (st' := [vI 0]) rfl ?_
                    refine g_bret rfl g_nar0 ?_
                    exact o5 h1 h2 s3 es3 h6 s7 es7 h10 h11 s12 es12 h15 h16 s17 es17 h20 h21 s43 es43 hGs43 hEs43 hSs43
                · refine gW_eq (st' := [vI (nI (sn S 9 - 1)), vI (nI 0), vS 56, vR 800]) rfl (by rw [(show (0 : Int32) = nI 0 from rfl)]) rfl ?_
                  refine g_cV1E rfl (args := [vR 800, vS 56, vI (nI 0), vI (nI (sn S 9 - 1))]) (rest := []) rfl rfl rfl (s_212c (d := d) (by decide) (wL_of (by decide)) hMs17 (show ¬ isW T tn (nxK T tn (nxK T tn (nxK T tn (nxK T tn (nxK T tn (nxK T tn tk)))))) (am_SL 56) from (by assumption : ¬ isW T tn (nxK T tn (nxK T tn (nxK T tn (nxK T tn (nxK T tn (nxK T tn tk)))))) (am_SL 8)))) (fun s46 es46 => ?_)
                  have hSs46 : s46 801 = S := (es46.1.1 801 (by decide)).trans hSs17
                  have hEs46 := es46.2
                  have hGs46 := hGs17.mf es46.1
                  refine g_pure 2 (i' := 66) (lv' := [some (vR 800), some (vI (nI (213 + 7 * (sn S 4)))), some (vI (nI (numK T tn (nxK T tn tk)))), some (vI (nI (numK T tn (nxK T tn (nxK T tn tk))))), some (vI (nI (numK T tn (nxK T tn (nxK T tn (nxK T tn tk)))))), some (vI (nI (numK T tn (nxK T tn (nxK T tn (nxK T tn (nxK T tn (nxK T tn tk)))))))), some (vI (-1)), none]) (st' := [vI (-1)]) rfl ?_
                  refine g_if1 (i' := 69) (P := 0 ≤ ((-1) : Int32)) rfl rfl Iff.rfl (fun h47 => absurd h47 (by decide)) (fun _ => ?_)
                  refine g_pure 4 (i' := 79) (lv' := [some (vR 800), some (vI (nI (213 + 7 * (sn S 4)))), some (vI (nI (numK T tn (nxK T tn tk)))), some (vI (nI (numK T tn (nxK T tn (nxK T tn tk))))), some (vI (nI (numK T tn (nxK T tn (nxK T tn (nxK T tn tk)))))), some (vI (nI (numK T tn (nxK T tn (nxK T tn (nxK T tn (nxK T tn (nxK T tn tk)))))))), some (vI (-1)), some (vI (-1))]) (st' := [vI (-1)]) rfl ?_
                  refine g_if1 (i' := 83) (P := ((-1) : Int32) < 0) rfl rfl Iff.rfl (fun _ => ?_) (fun h48 => absurd (by decide) h48)
                  refine g_pure 1 (i' := 84) (lv' := [some (vR 800), some (vI (nI (213 + 7 * (sn S 4)))), some (vI (nI (numK T tn (nxK T tn tk)))), some (vI (nI (numK T tn (nxK T tn (nxK T tn tk))))), some (vI (nI (numK T tn (nxK T tn (nxK T tn (nxK T tn tk)))))), some (vI (nI (numK T tn (nxK T tn (nxK T tn (nxK T tn (nxK T tn (nxK T tn tk)))))))), some (vI (-1)), some (vI (-1))]) (st' := [vI 0]) rfl ?_
                  refine g_bret rfl g_nar0 ?_
                  exact o6 h1 h2 s3 es3 h6 s7 es7 h10 h11 s12 es12 h15 h16 s17 es17 h20 s46 es46 hGs46 hEs46 hSs46
              · refine gW_eq (st' := [vI (nI (sn S 0) - 1), vI (nI 0), vS 55, vR 800]) rfl (by rw [(show (0 : Int32) = nI 0 from rfl)]) rfl ?_
                refine g_cV1E rfl (args := [vR 800, vS 55, vI (nI 0), vI (nI (sn S 0) - 1)]) (rest := []) rfl rfl rfl (s_212b (m := sn S 0) (d := d) (by decide) (wL_of (by decide)) hMs12 (by omega) (by omega) (rfl : (nI (sn S 0) - 1 : Int32) = nI (sn S 0) - 1) (show isW T tn (nxK T tn (nxK T tn (nxK T tn (nxK T tn tk)))) (am_SL 55) from (by assumption : isW T tn (nxK T tn (nxK T tn (nxK T tn (nxK T tn tk)))) (am_SL 7))) (by assumption)) (fun s49 es49 => ?_)
                have hSs49 : s49 801 = S := (es49.1.1 801 (by decide)).trans hSs12
                have hEs49 := es49.2
                have hGs49 := hGs12.mf es49.1
                refine g_pure 2 (i' := 53) (lv' := [some (vR 800), some (vI (nI (213 + 7 * (sn S 4)))), some (vI (nI (numK T tn (nxK T tn tk)))), some (vI (nI (numK T tn (nxK T tn (nxK T tn tk))))), some (vI (nI (numK T tn (nxK T tn (nxK T tn (nxK T tn tk)))))), some (vI (-1)), none, none]) (st' := [vI (-1)]) rfl ?_
                refine g_if1 (i' := 56) (P := 0 ≤ ((-1) : Int32)) rfl rfl Iff.rfl (fun h50 => absurd h50 (by decide)) (fun _ => ?_)
                refine g_pure 4 (i' := 66) (lv' := [some (vR 800), some (vI (nI (213 + 7 * (sn S 4)))), some (vI (nI (numK T tn (nxK T tn tk)))), some (vI (nI (numK T tn (nxK T tn (nxK T tn tk))))), some (vI (nI (numK T tn (nxK T tn (nxK T tn (nxK T tn tk)))))), some (vI (-1)), some (vI (-1)), none]) (st' := [vI (-1)]) rfl ?_
                refine g_if1 (i' := 69) (P := 0 ≤ ((-1) : Int32)) rfl rfl Iff.rfl (fun h51 => absurd h51 (by decide)) (fun _ => ?_)
                refine g_pure 4 (i' := 79) (lv' := [some (vR 800), some (vI (nI (213 + 7 * (sn S 4)))), some (vI (nI (numK T tn (nxK T tn tk)))), some (vI (nI (numK T tn (nxK T tn (nxK T tn tk))))), some (vI (nI (numK T tn (nxK T tn (nxK T tn (nxK T tn tk)))))), some (vI (-1)), some (vI (-1)), some (vI (-1))]) (st' := [vI (-1)]) rfl ?_
                refine g_if1 (i' := 83) (P := ((-1) : Int32) < 0) rfl rfl Iff.rfl (fun _ => ?_) (fun h52 => absurd (by decide) h52)
                refine g_pure 1 (i' := 84) (lv' := [some (vR 800), some (vI (nI (213 + 7 * (sn S 4)))), some (vI (nI (numK T tn (nxK T tn tk)))), some (vI (nI (numK T tn (nxK T tn (nxK T tn tk))))), some (vI (nI (numK T tn (nxK T tn (nxK T tn (nxK T tn tk)))))), some (vI (-1)), some (vI (-1)), some (vI (-1))]) (st' := [vI 0]) rfl ?_
                refine g_bret rfl g_nar0 ?_
                exact o7 h1 h2 s3 es3 h6 s7 es7 h10 h11 s12 es12 h15 h16 s49 es49 hGs49 hEs49 hSs49
            · refine gW_eq (st' := [vI (nI (sn S 0) - 1), vI (nI 0), vS 55, vR 800]) rfl (by rw [(show (0 : Int32) = nI 0 from rfl)]) rfl ?_
              refine g_cV1E rfl (args := [vR 800, vS 55, vI (nI 0), vI (nI (sn S 0) - 1)]) (rest := []) rfl rfl rfl (s_212c (d := d) (by decide) (wL_of (by decide)) hMs12 (show ¬ isW T tn (nxK T tn (nxK T tn (nxK T tn (nxK T tn tk)))) (am_SL 55) from (by assumption : ¬ isW T tn (nxK T tn (nxK T tn (nxK T tn (nxK T tn tk)))) (am_SL 7)))) (fun s53 es53 => ?_)
              have hSs53 : s53 801 = S := (es53.1.1 801 (by decide)).trans hSs12
              have hEs53 := es53.2
              have hGs53 := hGs12.mf es53.1
              refine g_pure 2 (i' := 53) (lv' := [some (vR 800), some (vI (nI (213 + 7 * (sn S 4)))), some (vI (nI (numK T tn (nxK T tn tk)))), some (vI (nI (numK T tn (nxK T tn (nxK T tn tk))))), some (vI (nI (numK T tn (nxK T tn (nxK T tn (nxK T tn tk)))))), some (vI (-1)), none, none]) (st' := [vI (-1)]) rfl ?_
              refine g_if1 (i' := 56) (P := 0 ≤ ((-1) : Int32)) rfl rfl Iff.rfl (fun h54 => absurd h54 (by decide)) (fun _ => ?_)
              refine g_pure 4 (i' := 66) (lv' := [some (vR 800), some (vI (nI (213 + 7 * (sn S 4)))), some (vI (nI (numK T tn (nxK T tn tk)))), some (vI (nI (numK T tn (nxK T tn (nxK T tn tk))))), some (vI (nI (numK T tn (nxK T tn (nxK T tn (nxK T tn tk)))))), some (vI (-1)), some (vI (-1)), none]) (st' := [vI (-1)]) rfl ?_
              refine g_if1 (i' := 69) (P := 0 ≤ ((-1) : Int32)) rfl rfl Iff.rfl (fun h55 => absurd h55 (by decide)) (fun _ => ?_)
              refine g_pure 4 (i' := 79) (lv' := [some (vR 800), some (vI (nI (213 + 7 * (sn S 4)))), some (vI (nI (numK T tn (nxK T tn tk)))), some (vI (nI (numK T tn (nxK T tn (nxK T tn tk))))), some (vI (nI (numK T tn (nxK T tn (nxK T tn (nxK T tn tk)))))), some (vI (-1)), some (vI (-1)), some (vI (-1))]) (st' := [vI (-1)]) rfl ?_
              refine g_if1 (i' := 83) (P := ((-1) : Int32) < 0) rfl rfl Iff.rfl (fun _ => ?_) (fun h56 => absurd (by decide) h56)
              refine g_pure 1 (i' := 84) (lv' := [some (vR 800), some (vI (nI (213 + 7 * (sn S 4)))), some (vI (nI (numK T tn (nxK T tn tk)))), some (vI (nI (numK T tn (nxK T tn (nxK T tn tk))))), some (vI (nI (numK T tn (nxK T tn (nxK T tn (nxK T tn tk)))))), some (vI (-1)), some (vI (-1)), some (vI (-1))]) (st' := [vI 0]) rfl ?_
              refine g_bret rfl g_nar0 ?_
              exact o8 h1 h2 s3 es3 h6 s7 es7 h10 h11 s12 es12 h15 s53 es53 hGs53 hEs53 hSs53
          · refine gW_eq (st' := [vI 999, vI (nI 1), vR 800]) rfl (by rw [(show (1 : Int32) = nI 1 from rfl)]) rfl ?_
            refine g_cV1E rfl (args := [vR 800, vI (nI 1), vI 999]) (rest := []) rfl rfl rfl (s_196b (m := 1000) (d := d + 1) hMs7 (by omega) (by omega) (show (999 : Int32) = nI 1000 - 1 from by decide) (by assumption)) (fun s57 es57 => ?_)
            have hSs57 : s57 801 = S := (es57.1.1 801 (by decide)).trans hSs7
            have hEs57 := es57.2
            have hGs57 := hGs7.mf es57.1
            refine g_pure 2 (i' := 40) (lv' := [some (vR 800), some (vI (nI (213 + 7 * (sn S 4)))), some (vI (nI (numK T tn (nxK T tn tk)))), some (vI (nI (numK T tn (nxK T tn (nxK T tn tk))))), some (vI (-1)), none, none, none]) (st' := [vI (-1)]) rfl ?_
            refine g_if1 (i' := 43) (P := 0 ≤ ((-1) : Int32)) rfl rfl Iff.rfl (fun h58 => absurd h58 (by decide)) (fun _ => ?_)
            refine g_pure 4 (i' := 53) (lv' := [some (vR 800), some (vI (nI (213 + 7 * (sn S 4)))), some (vI (nI (numK T tn (nxK T tn tk)))), some (vI (nI (numK T tn (nxK T tn (nxK T tn tk))))), some (vI (-1)), some (vI (-1)), none, none]) (st' := [vI (-1)]) rfl ?_
            refine g_if1 (i' := 56) (P := 0 ≤ ((-1) : Int32)) rfl rfl Iff.rfl (fun h59 => absurd h59 (by decide)) (fun _ => ?_)
            refine g_pure 4 (i' := 66) (lv' := [some (vR 800), some (vI (nI (213 + 7 * (sn S 4)))), some (vI (nI (numK T tn (nxK T tn tk)))), some (vI (nI (numK T tn (nxK T tn (nxK T tn tk))))), some (vI (-1)), some (vI (-1)), some (vI (-1)), none]) (st' := [vI (-1)]) rfl ?_
            refine g_if1 (i' := 69) (P := 0 ≤ ((-1) : Int32)) rfl rfl Iff.rfl (fun h60 => absurd h60 (by decide)) (fun _ => ?_)
            refine g_pure 4 (i' := 79) (lv' := [some (vR 800), some (vI (nI (213 + 7 * (sn S 4)))), some (vI (nI (numK T tn (nxK T tn tk)))), some (vI (nI (numK T tn (nxK T tn (nxK T tn tk))))), some (vI (-1)), some (vI (-1)), some (vI (-1)), some (vI (-1))]) (st' := [vI (-1)]) rfl ?_
            refine g_if1 (i' := 83) (P := ((-1) : Int32) < 0) rfl rfl Iff.rfl (fun _ => ?_) (fun h61 => absurd (by decide) h61)
            refine g_pure 1 (i' := 84) (lv' := [some (vR 800), some (vI (nI (213 + 7 * (sn S 4)))), some (vI (nI (numK T tn (nxK T tn tk)))), some (vI (nI (numK T tn (nxK T tn (nxK T tn tk))))), some (vI (-1)), some (vI (-1)), some (vI (-1)), some (vI (-1))]) (st' := [vI 0]) rfl ?_
            refine g_bret rfl g_nar0 ?_
            exact o9 h1 h2 s3 es3 h6 s7 es7 h10 h11 s57 es57 hGs57 hEs57 hSs57
        · have h10 := Classical.not_not.mp h10
          refine g_pure 1 (i' := 33) (lv' := [some (vR 800), some (vI (nI (213 + 7 * (sn S 4)))), some (vI (nI (numK T tn (nxK T tn tk)))), some (vI (nI (numK T tn (nxK T tn (nxK T tn tk))))), none, none, none, none]) (st' := [vI 0]) rfl ?_
          refine g_bret rfl g_nar0 ?_
          exact o10 h1 h2 s3 es3 h6 s7 es7 h10 hMs7 hGs7 hEs7 hSs7
      · refine g_cV1E rfl (args := [vR 800]) (rest := []) rfl rfl rfl (s_211b (d := d) hMs3 (((congrFun hSs3 1)).trans (hI.c1)) (by omega) (by assumption)) (fun s62 es62 => ?_)
        have hSs62 : s62 801 = S := (es62.1.1 801 (by decide)).trans hSs3
        have hEs62 := es62.2
        have hGs62 := hGs3.mf es62.1
        refine g_pure 2 (i' := 28) (lv' := [some (vR 800), some (vI (nI (213 + 7 * (sn S 4)))), some (vI (nI (numK T tn (nxK T tn tk)))), some (vI (-1)), none, none, none, none]) (st' := [vI (-1)]) rfl ?_
        refine g_if1 (i' := 32) (P := ((-1) : Int32) < 0) rfl rfl Iff.rfl (fun _ => ?_) (fun h63 => absurd (by decide) h63)
        refine g_pure 1 (i' := 33) (lv' := [some (vR 800), some (vI (nI (213 + 7 * (sn S 4)))), some (vI (nI (numK T tn (nxK T tn tk)))), some (vI (-1)), none, none, none, none]) (st' := [vI 0]) rfl ?_
        refine g_bret rfl g_nar0 ?_
        exact o11 h1 h2 s3 es3 h6 s62 es62 hGs62 hEs62 hSs62
    · refine g_cV1E rfl (args := [vR 800]) (rest := []) rfl rfl rfl (s_211b (d := d) hM (((congrFun hS 1)).trans (hI.c1)) (by omega) (by assumption)) (fun s64 es64 => ?_)
      have hSs64 : s64 801 = S := (es64.1.1 801 (by decide)).trans hS
      have hEs64 := es64.2
      have hGs64 := hG.mf es64.1
      refine g_pure 2 (i' := 21) (lv' := [some (vR 800), some (vI (nI (213 + 7 * (sn S 4)))), some (vI (-1)), none, none, none, none, none]) (st' := [vI (-1)]) rfl ?_
      refine g_if1 (i' := 24) (P := 0 ≤ ((-1) : Int32)) rfl rfl Iff.rfl (fun h65 => absurd h65 (by decide)) (fun _ => ?_)
      refine g_pure 4 (i' := 28) (lv' := [some (vR 800), some (vI (nI (213 + 7 * (sn S 4)))), some (vI (-1)), some (vI (-1)), none, none, none, none]) (st' := [vI (-1)]) rfl ?_
      refine g_if1 (i' := 32) (P := ((-1) : Int32) < 0) rfl rfl Iff.rfl (fun _ => ?_) (fun h66 => absurd (by decide) h66)
      refine g_pure 1 (i' := 33) (lv' := [some (vR 800), some (vI (nI (213 + 7 * (sn S 4)))), some (vI (-1)), some (vI (-1)), none, none, none, none]) (st' := [vI 0]) rfl ?_
      refine g_bret rfl g_nar0 ?_
      exact o12 h1 h2 s64 es64 hGs64 hEs64 hSs64
  · have h1 := Classical.not_not.mp h1
    refine g_pure 1 (i' := 16) (lv' := [some (vR 800), some (vI (nI (213 + 7 * (sn S 4)))), none, none, none, none, none, none]) (st' := [vI 0]) rfl ?_
    refine g_bret rfl g_nar0 ?_
    exact o13 h1 hM hG hE hS

theorem s_210 {X : Nat × (Nat → Int32)} {d : Nat} {p : Nat → Nat} {sg : Mg} {B : Nat} {S : Nat → Int32} (hI : Inv B S) (hS : sg 801 = S) {T : Nat → Int32} {tn tk : Nat} (hM : MK T tn (nxK T tn tk) sg) (hE : sg 800 11 = nI (spK T tn tk)) : gF X (d + 6) 210 [vR 800] p sg (lnM (prDeb T tn tk S) T tn sg p) := by
  have b0 := hI.b0; have b1 := hI.b1; have b2 := hI.b2; have b3 := hI.b3; have b4 := hI.b4; have b5 := hI.b5; have b6 := hI.b6; have b7 := hI.b7; have b8 := hI.b8; have b9 := hI.b9; have b14 := hI.b14
  refine g_in (cd := k_210) (nL := 8) (rc := 13) rfl (g_A (a := 800) (kd := 0) (n := 12) rfl (by decide)) (g_c1 rfl) (b_210_0 hI hS hM hE (FRm.rf sg) ?_ ?_ ?_ ?_ ?_ ?_ ?_ ?_ ?_ ?_ ?_ ?_ ?_)
  · intro h0 h1 s2 e2 h3 s4 e4 h5 h6 s7 e7 h8 h9 s10 e10 h11 h12 s13 e13 h14 h15 s16 e16 h17 s18 e18 s19 e19 s20 e20 s21 e21 s22 e22 s23 e23 s24 e24 s25 e25 cM cG cE cS
    have g0 : sn S 4 < 8 := by omega
    have g5 : ¬ numK T tn (nxK T tn (nxK T tn tk)) = numK T tn (nxK T tn tk) := fun e9 => h5 e9.symm
    have g17 : ¬ numK T tn (nxK T tn (nxK T tn (nxK T tn (nxK T tn (nxK T tn (nxK T tn (nxK T tn tk))))))) = numK T tn (nxK T tn (nxK T tn (nxK T tn (nxK T tn (nxK T tn (nxK T tn (nxK T tn (nxK T tn (nxK T tn tk))))))))) := fun e9 => h17 e9.symm
    have e : prDeb T tn tk S = .inr (nxK T tn (nxK T tn (nxK T tn (nxK T tn (nxK T tn (nxK T tn (nxK T tn (nxK T tn (nxK T tn (nxK T tn tk))))))))), (upd (upd (upd (upd (upd (upd (upd (upd S (213 + 7 * (sn S 4)) (nI (numK T tn (nxK T tn tk)))) (213 + 7 * (sn S 4) + 1) (nI (numK T tn (nxK T tn (nxK T tn tk))))) (213 + 7 * (sn S 4) + 2) (nI (numK T tn (nxK T tn (nxK T tn (nxK T tn tk)))))) (213 + 7 * (sn S 4) + 3) (nI (numK T tn (nxK T tn (nxK T tn (nxK T tn (nxK T tn (nxK T tn tk)))))))) (213 + 7 * (sn S 4) + 4) (nI (numK T tn (nxK T tn (nxK T tn (nxK T tn (nxK T tn (nxK T tn (nxK T tn (nxK T tn tk)))))))))) (213 + 7 * (sn S 4) + 5) (nI (numK T tn (nxK T tn (nxK T tn (nxK T tn (nxK T tn (nxK T tn (nxK T tn (nxK T tn (nxK T tn (nxK T tn tk)))))))))))) (213 + 7 * (sn S 4) + 6) 0) 4 (nI (sn S 4 + 1)))) := by simp only [prDeb, tkN, g0, h1, h3, h5, g5, h6, h8, h9, h11, h12, h14, h15, h17, g17, sel_T, sel_F, not_true_eq_false, not_false_eq_true, and_true, true_and, and_false, false_and, and_self, ne_eq, dcN_p, upd_upd]
    rw [e]
    exact ⟨_, ⟨cG, cM, cS⟩, rfl⟩
  · intro h0 h1 s2 e2 h3 s4 e4 h5 h6 s7 e7 h8 h9 s10 e10 h11 h12 s13 e13 h14 h15 s16 e16 h17 cM cG cE cS
    have g0 : sn S 4 < 8 := by omega
    have g5 : ¬ numK T tn (nxK T tn (nxK T tn tk)) = numK T tn (nxK T tn tk) := fun e9 => h5 e9.symm
    have g17 : numK T tn (nxK T tn (nxK T tn (nxK T tn (nxK T tn (nxK T tn (nxK T tn (nxK T tn tk))))))) = numK T tn (nxK T tn (nxK T tn (nxK T tn (nxK T tn (nxK T tn (nxK T tn (nxK T tn (nxK T tn (nxK T tn tk))))))))) := h17.symm
    have e : prDeb T tn tk S = .inl (spK T tn (nxK T tn (nxK T tn (nxK T tn (nxK T tn (nxK T tn (nxK T tn (nxK T tn (nxK T tn (nxK T tn tk)))))))))) := by simp only [prDeb, tkN, g0, h1, h3, h5, g5, h6, h8, h9, h11, h12, h14, h15, g17, sel_T, sel_F, not_true_eq_false, not_false_eq_true, and_true, true_and, and_false, false_and, and_self, ne_eq, dcN_p, upd_upd]
    rw [e]
    exact ⟨_, ⟨cG, cE⟩, rfl⟩
  · intro h0 h1 s2 e2 h3 s4 e4 h5 h6 s7 e7 h8 h9 s10 e10 h11 h12 s13 e13 h14 h15 s16 e16 cG cE cS
    have g0 : sn S 4 < 8 := by omega
    have g5 : ¬ numK T tn (nxK T tn (nxK T tn tk)) = numK T tn (nxK T tn tk) := fun e9 => h5 e9.symm
    have e : prDeb T tn tk S = .inl (spK T tn (nxK T tn (nxK T tn (nxK T tn (nxK T tn (nxK T tn (nxK T tn (nxK T tn (nxK T tn (nxK T tn tk)))))))))) := by simp only [prDeb, tkN, g0, h1, h3, h5, g5, h6, h8, h9, h11, h12, h14, h15, sel_T, sel_F, not_true_eq_false, not_false_eq_true, and_true, true_and, and_false, false_and, and_self, ne_eq, dcN_p, upd_upd]
    rw [e]
    exact ⟨_, ⟨cG, cE⟩, rfl⟩
  · intro h0 h1 s2 e2 h3 s4 e4 h5 h6 s7 e7 h8 h9 s10 e10 h11 h12 s13 e13 h14 s15 e15 cG cE cS
    have g0 : sn S 4 < 8 := by omega
    have g5 : ¬ numK T tn (nxK T tn (nxK T tn tk)) = numK T tn (nxK T tn tk) := fun e9 => h5 e9.symm
    have e : prDeb T tn tk S = .inl (spK T tn (nxK T tn (nxK T tn (nxK T tn (nxK T tn (nxK T tn (nxK T tn (nxK T tn (nxK T tn tk))))))))) := by simp only [prDeb, tkN, g0, h1, h3, h5, g5, h6, h8, h9, h11, h12, h14, sel_T, sel_F, not_true_eq_false, not_false_eq_true, and_true, true_and, and_false, false_and, and_self, ne_eq, dcN_p, upd_upd]
    rw [e]
    exact ⟨_, ⟨cG, cE⟩, rfl⟩
  · intro h0 h1 s2 e2 h3 s4 e4 h5 h6 s7 e7 h8 h9 s10 e10 h11 h12 s13 e13 cG cE cS
    have g0 : sn S 4 < 8 := by omega
    have g5 : ¬ numK T tn (nxK T tn (nxK T tn tk)) = numK T tn (nxK T tn tk) := fun e9 => h5 e9.symm
    have e : prDeb T tn tk S = .inl (spK T tn (nxK T tn (nxK T tn (nxK T tn (nxK T tn (nxK T tn (nxK T tn (nxK T tn tk)))))))) := by simp only [prDeb, tkN, g0, h1, h3, h5, g5, h6, h8, h9, h11, h12, sel_T, sel_F, not_true_eq_false, not_false_eq_true, and_true, true_and, and_false, false_and, and_self, ne_eq, dcN_p, upd_upd]
    rw [e]
    exact ⟨_, ⟨cG, cE⟩, rfl⟩
  · intro h0 h1 s2 e2 h3 s4 e4 h5 h6 s7 e7 h8 h9 s10 e10 h11 s12 e12 cG cE cS
    have g0 : sn S 4 < 8 := by omega
    have g5 : ¬ numK T tn (nxK T tn (nxK T tn tk)) = numK T tn (nxK T tn tk) := fun e9 => h5 e9.symm
    have e : prDeb T tn tk S = .inl (spK T tn (nxK T tn (nxK T tn (nxK T tn (nxK T tn (nxK T tn (nxK T tn tk))))))) := by simp only [prDeb, tkN, g0, h1, h3, h5, g5, h6, h8, h9, h11, sel_T, sel_F, not_true_eq_false, not_false_eq_true, and_true, true_and, and_false, false_and, and_self, ne_eq, dcN_p, upd_upd]
    rw [e]
    exact ⟨_, ⟨cG, cE⟩, rfl⟩
  · intro h0 h1 s2 e2 h3 s4 e4 h5 h6 s7 e7 h8 h9 s10 e10 cG cE cS
    have g0 : sn S 4 < 8 := by omega
    have g5 : ¬ numK T tn (nxK T tn (nxK T tn tk)) = numK T tn (nxK T tn tk) := fun e9 => h5 e9.symm
    have e : prDeb T tn tk S = .inl (spK T tn (nxK T tn (nxK T tn (nxK T tn (nxK T tn (nxK T tn tk)))))) := by simp only [prDeb, tkN, g0, h1, h3, h5, g5, h6, h8, h9, sel_T, sel_F, not_true_eq_false, not_false_eq_true, and_true, true_and, and_false, false_and, and_self, ne_eq, dcN_p, upd_upd]
    rw [e]
    exact ⟨_, ⟨cG, cE⟩, rfl⟩
  · intro h0 h1 s2 e2 h3 s4 e4 h5 h6 s7 e7 h8 s9 e9 cG cE cS
    have g0 : sn S 4 < 8 := by omega
    have g5 : ¬ numK T tn (nxK T tn (nxK T tn tk)) = numK T tn (nxK T tn tk) := fun e9 => h5 e9.symm
    have e : prDeb T tn tk S = .inl (spK T tn (nxK T tn (nxK T tn (nxK T tn (nxK T tn tk))))) := by simp only [prDeb, tkN, g0, h1, h3, h5, g5, h6, h8, sel_T, sel_F, not_true_eq_false, not_false_eq_true, and_true, true_and, and_false, false_and, and_self, ne_eq, dcN_p, upd_upd]
    rw [e]
    exact ⟨_, ⟨cG, cE⟩, rfl⟩
  · intro h0 h1 s2 e2 h3 s4 e4 h5 h6 s7 e7 cG cE cS
    have g0 : sn S 4 < 8 := by omega
    have g5 : ¬ numK T tn (nxK T tn (nxK T tn tk)) = numK T tn (nxK T tn tk) := fun e9 => h5 e9.symm
    have e : prDeb T tn tk S = .inl (spK T tn (nxK T tn (nxK T tn (nxK T tn tk)))) := by simp only [prDeb, tkN, g0, h1, h3, h5, g5, h6, sel_T, sel_F, not_true_eq_false, not_false_eq_true, and_true, true_and, and_false, false_and, and_self, ne_eq, dcN_p, upd_upd]
    rw [e]
    exact ⟨_, ⟨cG, cE⟩, rfl⟩
  · intro h0 h1 s2 e2 h3 s4 e4 h5 cM cG cE cS
    have g0 : sn S 4 < 8 := by omega
    have g5 : numK T tn (nxK T tn (nxK T tn tk)) = numK T tn (nxK T tn tk) := h5.symm
    have e : prDeb T tn tk S = .inl (spK T tn (nxK T tn (nxK T tn tk))) := by simp only [prDeb, tkN, g0, h1, h3, g5, sel_T, sel_F, not_true_eq_false, not_false_eq_true, and_true, true_and, and_false, false_and, and_self, ne_eq, dcN_p, upd_upd]
    rw [e]
    exact ⟨_, ⟨cG, cE⟩, rfl⟩
  · intro h0 h1 s2 e2 h3 s4 e4 cG cE cS
    have g0 : sn S 4 < 8 := by omega
    have e : prDeb T tn tk S = .inl (spK T tn (nxK T tn (nxK T tn tk))) := by simp only [prDeb, tkN, g0, h1, h3, sel_T, sel_F, not_true_eq_false, not_false_eq_true, and_true, true_and, and_false, false_and, and_self, ne_eq, dcN_p, upd_upd]
    rw [e]
    exact ⟨_, ⟨cG, cE⟩, rfl⟩
  · intro h0 h1 s2 e2 cG cE cS
    have g0 : sn S 4 < 8 := by omega
    have e : prDeb T tn tk S = .inl (spK T tn (nxK T tn tk)) := by simp only [prDeb, tkN, g0, h1, sel_T, sel_F, not_true_eq_false, not_false_eq_true, and_true, true_and, and_false, false_and, and_self, ne_eq, dcN_p, upd_upd]
    rw [e]
    exact ⟨_, ⟨cG, cE⟩, rfl⟩
  · intro h0 cM cG cE cS
    have g0 : ¬ sn S 4 < 8 := by omega
    have e : prDeb T tn tk S = .inl (spK T tn tk) := by simp only [prDeb, tkN, g0, sel_T, sel_F, not_true_eq_false, not_false_eq_true, and_true, true_and, and_false, false_and, and_self, ne_eq, dcN_p, upd_upd]
    rw [e]
    exact ⟨_, ⟨cG, cE⟩, rfl⟩

theorem b_213_0 {X : Nat × (Nat → Int32)} {d : Nat} {p : Nat → Nat} {sg : Mg} {Q : am_R → Prop} {B : Nat} {S : Nat → Int32} (hI : Inv B S) (hS : sg 801 = S) {T : Nat → Int32} {tn tk : Nat} (hM : MK T tn (nxK T tn tk) sg) (hE : sg 800 11 = nI (spK T tn tk)) {sg0 : Mg} (hG : FRm sg0 sg)
    (o1 : (¬ sn S 5 = 8) → (tkP T tn (nxK T tn tk) 4 0 (sn S 0)) → ∀ s3 : Mg, (MK T tn (nxK T tn (nxK T tn tk)) s3 ∧ NR T tn (nxK T tn tk) sg s3) → (tkP T tn (nxK T tn (nxK T tn tk)) 4 0 (sn S 9)) → ∀ s7 : Mg, (MK T tn (nxK T tn (nxK T tn (nxK T tn tk))) s7 ∧ NR T tn (nxK T tn (nxK T tn tk)) s3 s7) → (isW T tn (nxK T tn (nxK T tn (nxK T tn tk))) (am_SL 11)) → ∀ s11 : Mg, (MK T tn (nxK T tn (nxK T tn (nxK T tn (nxK T tn tk)))) s11 ∧ NR T tn (nxK T tn (nxK T tn (nxK T tn tk))) s7 s11) → (tkP T tn (nxK T tn (nxK T tn (nxK T tn (nxK T tn tk)))) 4 0 (sn S 5)) → ∀ s14 : Mg, (MK T tn (nxK T tn (nxK T tn (nxK T tn (nxK T tn (nxK T tn tk))))) s14 ∧ NR T tn (nxK T tn (nxK T tn (nxK T tn (nxK T tn tk)))) s11 s14) → ∀ s17 : Mg, s17 = mu s14 801 (269 + 5 * (sn S 5)) (nI (numK T tn (nxK T tn tk))) → ∀ s18 : Mg, s18 = mu s17 801 (269 + 5 * (sn S 5) + 1) (nI (numK T tn (nxK T tn (nxK T tn tk)))) → ∀ s19 : Mg, s19 = mu s18 801 (269 + 5 * (sn S 5) + 2) (nI (numK T tn (nxK T tn (nxK T tn (nxK T tn (nxK T tn tk)))))) → ∀ s20 : Mg, s20 = mu s19 801 (269 + 5 * (sn S 5) + 3) (-1) → ∀ s21 : Mg, s21 = mu s20 801 (269 + 5 * (sn S 5) + 4) (-1) → ∀ s22 : Mg, s22 = mu s21 801 5 (nI (sn S 5 + 1)) → MK T tn (nxK T tn (nxK T tn (nxK T tn (nxK T tn (nxK T tn tk))))) s22 → FRm sg0 s22 → s22 800 11 = nI (spK T tn (nxK T tn (nxK T tn (nxK T tn (nxK T tn tk))))) → s22 801 = (upd (upd (upd (upd (upd (upd S (269 + 5 * (sn S 5)) (nI (numK T tn (nxK T tn tk)))) (269 + 5 * (sn S 5) + 1) (nI (numK T tn (nxK T tn (nxK T tn tk))))) (269 + 5 * (sn S 5) + 2) (nI (numK T tn (nxK T tn (nxK T tn (nxK T tn (nxK T tn tk))))))) (269 + 5 * (sn S 5) + 3) (-1)) (269 + 5 * (sn S 5) + 4) (-1)) 5 (nI (sn S 5 + 1))) → Q (gRv p s22 1))
    (o2 : (¬ sn S 5 = 8) → (tkP T tn (nxK T tn tk) 4 0 (sn S 0)) → ∀ s3 : Mg, (MK T tn (nxK T tn (nxK T tn tk)) s3 ∧ NR T tn (nxK T tn tk) sg s3) → (tkP T tn (nxK T tn (nxK T tn tk)) 4 0 (sn S 9)) → ∀ s7 : Mg, (MK T tn (nxK T tn (nxK T tn (nxK T tn tk))) s7 ∧ NR T tn (nxK T tn (nxK T tn tk)) s3 s7) → (isW T tn (nxK T tn (nxK T tn (nxK T tn tk))) (am_SL 11)) → ∀ s11 : Mg, (MK T tn (nxK T tn (nxK T tn (nxK T tn (nxK T tn tk)))) s11 ∧ NR T tn (nxK T tn (nxK T tn (nxK T tn tk))) s7 s11) → (¬ tkP T tn (nxK T tn (nxK T tn (nxK T tn (nxK T tn tk)))) 4 0 (sn S 5)) → ∀ s23 : Mg, (NR T tn (nxK T tn (nxK T tn (nxK T tn (nxK T tn tk)))) s11 s23) → FRm sg0 s23 → s23 800 11 = nI (spK T tn (nxK T tn (nxK T tn (nxK T tn (nxK T tn tk))))) → s23 801 = S → Q (gRv p s23 0))
    (o3 : (¬ sn S 5 = 8) → (tkP T tn (nxK T tn tk) 4 0 (sn S 0)) → ∀ s3 : Mg, (MK T tn (nxK T tn (nxK T tn tk)) s3 ∧ NR T tn (nxK T tn tk) sg s3) → (tkP T tn (nxK T tn (nxK T tn tk)) 4 0 (sn S 9)) → ∀ s7 : Mg, (MK T tn (nxK T tn (nxK T tn (nxK T tn tk))) s7 ∧ NR T tn (nxK T tn (nxK T tn tk)) s3 s7) → (¬ isW T tn (nxK T tn (nxK T tn (nxK T tn tk))) (am_SL 11)) → ∀ s25 : Mg, (MK T tn (nxK T tn (nxK T tn (nxK T tn tk))) s25 ∧ NR T tn (nxK T tn (nxK T tn (nxK T tn tk))) s7 s25) → ∀ s27 : Mg, s27 = mu s25 801 (269 + 5 * (sn S 5)) (nI (numK T tn (nxK T tn tk))) → ∀ s28 : Mg, s28 = mu s27 801 (269 + 5 * (sn S 5) + 1) (nI (numK T tn (nxK T tn (nxK T tn tk)))) → ∀ s29 : Mg, s29 = mu s28 801 (269 + 5 * (sn S 5) + 2) (-1) → ∀ s30 : Mg, s30 = mu s29 801 (269 + 5 * (sn S 5) + 3) (-1) → ∀ s31 : Mg, s31 = mu s30 801 (269 + 5 * (sn S 5) + 4) (-1) → ∀ s32 : Mg, s32 = mu s31 801 5 (nI (sn S 5 + 1)) → MK T tn (nxK T tn (nxK T tn (nxK T tn tk))) s32 → FRm sg0 s32 → s32 800 11 = nI (spK T tn (nxK T tn (nxK T tn (nxK T tn tk)))) → s32 801 = (upd (upd (upd (upd (upd (upd S (269 + 5 * (sn S 5)) (nI (numK T tn (nxK T tn tk)))) (269 + 5 * (sn S 5) + 1) (nI (numK T tn (nxK T tn (nxK T tn tk))))) (269 + 5 * (sn S 5) + 2) (-1)) (269 + 5 * (sn S 5) + 3) (-1)) (269 + 5 * (sn S 5) + 4) (-1)) 5 (nI (sn S 5 + 1))) → Q (gRv p s32 1))
    (o4 : (¬ sn S 5 = 8) → (tkP T tn (nxK T tn tk) 4 0 (sn S 0)) → ∀ s3 : Mg, (MK T tn (nxK T tn (nxK T tn tk)) s3 ∧ NR T tn (nxK T tn tk) sg s3) → (¬ tkP T tn (nxK T tn (nxK T tn tk)) 4 0 (sn S 9)) → ∀ s33 : Mg, (NR T tn (nxK T tn (nxK T tn tk)) s3 s33) → FRm sg0 s33 → s33 800 11 = nI (spK T tn (nxK T tn (nxK T tn tk))) → s33 801 = S → Q (gRv p s33 0))
    (o5 : (¬ sn S 5 = 8) → (¬ tkP T tn (nxK T tn tk) 4 0 (sn S 0)) → ∀ s35 : Mg, (NR T tn (nxK T tn tk) sg s35) → FRm sg0 s35 → s35 800 11 = nI (spK T tn (nxK T tn tk)) → s35 801 = S → Q (gRv p s35 0))
    (o6 : (sn S 5 = 8) → MK T tn (nxK T tn tk) sg → FRm sg0 sg → sg 800 11 = nI (spK T tn tk) → sg 801 = S → Q (gRv p sg 0)) :
    gW X (d + 5) k_213 0 [some (vR 800), none, none, none, none] [] p sg Q := by
  have b0 := hI.b0; have b1 := hI.b1; have b2 := hI.b2; have b3 := hI.b3; have b4 := hI.b4; have b5 := hI.b5; have b6 := hI.b6; have b7 := hI.b7; have b8 := hI.b8; have b9 := hI.b9; have b14 := hI.b14
  refine g_pure 3 (i' := 3) (lv' := [some (vR 800), none, none, none, none]) (st' := [vI 5, vR 801]) rfl ?_
  refine g_ald rfl (g_A (a := 801) (kd := 1) (n := 2407) rfl (by decide)) (by decide) (show 5 = nI 5 from (show (5 : Int32) = nI 5 from rfl)) (by decide) (show _ = S 5 from (congrFun hS 5)) ?_
  refine g_pure 3 (i' := 7) (lv' := [some (vR 800), some (vI (S 5)), none, none, none]) (st' := [vI 8, vI (S 5)]) rfl ?_
  refine g_if2 (i' := 10) (P := ¬ sn S 5 = 8) rfl rfl (g_neN (show S 5 = nI (sn S 5) from (hI.c5)) (show 8 = nI 8 from (show (8 : Int32) = nI 8 from rfl)) (by omega) (by omega)) (fun h1 => ?_) (fun h1 => ?_)
  · refine g_pure 1 (i' := 11) (lv' := [some (vR 800), some (vI (S 5)), none, none, none]) (st' := [vR 800]) rfl ?_
    by_cases h2 : tkP T tn (nxK T tn tk) 4 0 (sn S 0)
    · refine g_cV1E rfl (args := [vR 800]) (rest := []) rfl rfl rfl (s_204a (d := d) hM (((congrFun hS 0)).trans (hI.c0)) (by omega) (by assumption)) (fun s3 es3 => ?_)
      have hSs3 : s3 801 = S := (es3.2.1.1 801 (by decide)).trans hS
      have hMs3 := es3.1
      have hEs3 := es3.2.2
      have hGs3 := hG.mf es3.2.1
      have t4 := (show tkP T tn (nxK T tn tk) 4 0 (sn S 0) by assumption).2.2.2
      refine g_pure 2 (i' := 14) (lv' := [some (vR 800), some (vI (S 5)), some (vI (nI (numK T tn (nxK T tn tk)))), none, none]) (st' := [vI (nI (numK T tn (nxK T tn tk)))]) rfl ?_
      refine g_if1 (i' := 17) (P := 0 ≤ numK T tn (nxK T tn tk)) rfl rfl (g_geN (show nI (numK T tn (nxK T tn tk)) = nI (numK T tn (nxK T tn tk)) from (rfl : nI (numK T tn (nxK T tn tk)) = nI (numK T tn (nxK T tn tk)))) (show 0 = nI 0 from (show (0 : Int32) = nI 0 from rfl)) (by omega) (by omega)) (fun _ => ?_) (fun h5 => absurd (by omega) h5)
      refine g_pure 1 (i' := 18) (lv' := [some (vR 800), some (vI (S 5)), some (vI (nI (numK T tn (nxK T tn tk)))), none, none]) (st' := [vR 800]) rfl ?_
      by_cases h6 : tkP T tn (nxK T tn (nxK T tn tk)) 4 0 (sn S 9)
      · refine g_cV1E rfl (args := [vR 800]) (rest := []) rfl rfl rfl (s_200a (d := d) hMs3 (((congrFun hSs3 9)).trans (hI.c9)) (by omega) (by assumption)) (fun s7 es7 => ?_)
        have hSs7 : s7 801 = S := (es7.2.1.1 801 (by decide)).trans hSs3
        have hMs7 := es7.1
        have hEs7 := es7.2.2
        have hGs7 := hGs3.mf es7.2.1
        have t8 := (show tkP T tn (nxK T tn (nxK T tn tk)) 4 0 (sn S 9) by assumption).2.2.2
        refine g_pure 2 (i' := 21) (lv' := [some (vR 800), some (vI (S 5)), some (vI (nI (numK T tn (nxK T tn tk)))), some (vI (nI (numK T tn (nxK T tn (nxK T tn tk))))), none]) (st' := [vI (nI (numK T tn (nxK T tn (nxK T tn tk))))]) rfl ?_
        refine g_if1 (i' := 24) (P := 0 ≤ numK T tn (nxK T tn (nxK T tn tk))) rfl rfl (g_geN (show nI (numK T tn (nxK T tn (nxK T tn tk))) = nI (numK T tn (nxK T tn (nxK T tn tk))) from (rfl : nI (numK T tn (nxK T tn (nxK T tn tk))) = nI (numK T tn (nxK T tn (nxK T tn tk))))) (show 0 = nI 0 from (show (0 : Int32) = nI 0 from rfl)) (by omega) (by omega)) (fun _ => ?_) (fun h9 => absurd (by omega) h9)
        refine g_pure 4 (i' := 28) (lv' := [some (vR 800), some (vI (S 5)), some (vI (nI (numK T tn (nxK T tn tk)))), some (vI (nI (numK T tn (nxK T tn (nxK T tn tk))))), some (vI (-1))]) (st' := [vS 59, vR 800]) rfl ?_
        by_cases h10 : isW T tn (nxK T tn (nxK T tn (nxK T tn tk))) (am_SL 11)
        · refine g_cV1E rfl (args := [vR 800, vS 59]) (rest := []) rfl rfl rfl (s_214a (d := d + 1) (by decide) (wL_of (by decide)) hMs7 (show isW T tn (nxK T tn (nxK T tn (nxK T tn tk))) (am_SL 59) from (by assumption : isW T tn (nxK T tn (nxK T tn (nxK T tn tk))) (am_SL 11)))) (fun s11 es11 => ?_)
          have hSs11 : s11 801 = S := (es11.2.1.1 801 (by decide)).trans hSs7
          have hMs11 := es11.1
          have hEs11 := es11.2.2
          have hGs11 := hGs7.mf es11.2.1
          refine g_if1 (i' := 41) (P := 1 = 0) rfl rfl (g_eqN (show 1 = nI 1 from (show (1 : Int32) = nI 1 from rfl)) (show 0 = nI 0 from (show (0 : Int32) = nI 0 from rfl)) (by omega) (by omega)) (fun h12 => absurd h12 (by omega)) (fun _ => ?_)
          refine g_pure 4 (i' := 34) (lv' := [some (vR 800), some (vI (S 5)), some (vI (nI (numK T tn (nxK T tn tk)))), some (vI (nI (numK T tn (nxK T tn (nxK T tn tk))))), some (vI (-1))]) (st' := [vI 1, vI (S 5), vI 0, vR 800]) rfl ?_
          refine gW_eq (lv' := [some (vR 800), some (vI (S 5)), some (vI (nI (numK T tn (nxK T tn tk)))), some (vI (nI (numK T tn (nxK T tn (nxK T tn tk))))), some (vI (-1))]) (st' := [vI 1, vI (nI (sn S 5)), vI 0, vR 800]) rfl (by rw [(show S 5 = nI (sn S 5) from (hI.c5))]) rfl ?_
          refine g_pure 1 (i' := 35) (lv' := [some (vR 800), some (vI (S 5)), some (vI (nI (numK T tn (nxK T tn tk)))), some (vI (nI (numK T tn (nxK T tn (nxK T tn tk))))), some (vI (-1))]) (st' := [vI (nI (sn S 5) - 1), vI 0, vR 800]) rfl ?_
          by_cases h13 : tkP T tn (nxK T tn (nxK T tn (nxK T tn (nxK T tn tk)))) 4 0 (sn S 5)
          · refine gW_eq (st' := [vI (nI (sn S 5) - 1), vI (nI 0), vR 800]) rfl (by rw [(show (0 : Int32) = nI 0 from rfl)]) rfl ?_
            refine g_cV1E rfl (args := [vR 800, vI (nI 0), vI (nI (sn S 5) - 1)]) (rest := []) rfl rfl rfl (s_196a (m := sn S 5) (d := d + 1) hMs11 (by omega) (by omega) (rfl : (nI (sn S 5) - 1 : Int32) = nI (sn S 5) - 1) (by assumption)) (fun s14 es14 => ?_)
            have hSs14 : s14 801 = S := (es14.2.1.1 801 (by decide)).trans hSs11
            have hMs14 := es14.1
            have hEs14 := es14.2.2
            have hGs14 := hGs11.mf es14.2.1
            have t15 := (show tkP T tn (nxK T tn (nxK T tn (nxK T tn (nxK T tn tk)))) 4 0 (sn S 5) by assumption).2.2
            refine g_pure 2 (i' := 38) (lv' := [some (vR 800), some (vI (S 5)), some (vI (nI (numK T tn (nxK T tn tk)))), some (vI (nI (numK T tn (nxK T tn (nxK T tn tk))))), some (vI (nI (numK T tn (nxK T tn (nxK T tn (nxK T tn (nxK T tn tk)))))))]) (st' := [vI (nI (numK T tn (nxK T tn (nxK T tn (nxK T tn (nxK T tn tk))))))]) rfl ?_
            refine g_if1 (i' := 41) (P := 0 ≤ numK T tn (nxK T tn (nxK T tn (nxK T tn (nxK T tn tk))))) rfl rfl (g_geN (show nI (numK T tn (nxK T tn (nxK T tn (nxK T tn (nxK T tn tk))))) = nI (numK T tn (nxK T tn (nxK T tn (nxK T tn (nxK T tn tk))))) from (rfl : nI (numK T tn (nxK T tn (nxK T tn (nxK T tn (nxK T tn tk))))) = nI (numK T tn (nxK T tn (nxK T tn (nxK T tn (nxK T tn tk))))))) (show 0 = nI 0 from (show (0 : Int32) = nI 0 from rfl)) (by omega) (by omega)) (fun _ => ?_) (fun h16 => absurd (by omega) h16)
            refine g_pure 10 (i' := 51) (lv' := [some (vR 800), some (vI (S 5)), some (vI (nI (numK T tn (nxK T tn tk)))), some (vI (nI (numK T tn (nxK T tn (nxK T tn tk))))), some (vI (nI (numK T tn (nxK T tn (nxK T tn (nxK T tn (nxK T tn tk)))))))]) (st' := [vI (nI (numK T tn (nxK T tn tk))), vI ((269 + (5 * S 5)) + 0), vR 801]) rfl ?_
            refine gW_eq (lv' := [some (vR 800), some (vI (S 5)), some (vI (nI (numK T tn (nxK T tn tk)))), some (vI (nI (numK T tn (nxK T tn (nxK T tn tk))))), some (vI (nI (numK T tn (nxK T tn (nxK T tn (nxK T tn (nxK T tn tk)))))))]) (st' := [vI (nI (numK T tn (nxK T tn tk))), vI (nI (269 + 5 * (sn S 5))), vR 801]) rfl (by rw [(show ((269 + (5 * S 5)) + 0) = nI (269 + 5 * (sn S 5)) from ((g_add (g_add (show (269 : Int32) = nI 269 from rfl) (g_mul (show (5 : Int32) = nI 5 from rfl) (hI.c5))) (show (0 : Int32) = nI 0 from rfl))).trans (congrArg nI (by omega)))]) rfl ?_
            refine g_ast rfl (g_A (a := 801) (kd := 1) (n := 2407) rfl (by decide)) (by decide) (show nI (269 + 5 * (sn S 5)) = nI (269 + 5 * (sn S 5)) from (rfl : nI (269 + 5 * (sn S 5)) = nI (269 + 5 * (sn S 5)))) (by omega) ?_
            refine g_setv (fun s17 es17 => ?_)
            have hMs17 : MK T tn (nxK T tn (nxK T tn (nxK T tn (nxK T tn (nxK T tn tk))))) s17 := hMs14.eq (by rw [es17, mu_ne (by decide)]) (by rw [es17, mu_ne (by decide)])
            have hEs17 : s17 800 11 = nI (spK T tn (nxK T tn (nxK T tn (nxK T tn (nxK T tn tk))))) := by rw [es17, mu_ne (by decide)]; exact hEs14
            have hGs17 : FRm sg0 s17 := by rw [es17]; exact hGs14.m801 (by omega)
            have hSs17 : s17 801 = upd S (269 + 5 * (sn S 5)) (nI (numK T tn (nxK T tn tk))) := by rw [es17, mu_row, hSs14]
            refine g_pure 10 (i' := 62) (lv' := [some (vR 800), some (vI (S 5)), some (vI (nI (numK T tn (nxK T tn tk)))), some (vI (nI (numK T tn (nxK T tn (nxK T tn tk))))), some (vI (nI (numK T tn (nxK T tn (nxK T tn (nxK T tn (nxK T tn tk)))))))]) (st' := [vI (nI (numK T tn (nxK T tn (nxK T tn tk)))), vI ((269 + (5 * S 5)) + 1), vR 801]) rfl ?_
            refine gW_eq (lv' := [some (vR 800), some (vI (S 5)), some (vI (nI (numK T tn (nxK T tn tk)))), some (vI (nI (numK T tn (nxK T tn (nxK T tn tk))))), some (vI (nI (numK T tn (nxK T tn (nxK T tn (nxK T tn (nxK T tn tk)))))))]) (st' := [vI (nI (numK T tn (nxK T tn (nxK T tn tk)))), vI (nI (269 + 5 * (sn S 5) + 1)), vR 801]) rfl (by rw [(show ((269 + (5 * S 5)) + 1) = nI (269 + 5 * (sn S 5) + 1) from ((g_add (g_add (show (269 : Int32) = nI 269 from rfl) (g_mul (show (5 : Int32) = nI 5 from rfl) (hI.c5))) (show (1 : Int32) = nI 1 from rfl))).trans (congrArg nI (by omega)))]) rfl ?_
            refine g_ast rfl (g_A (a := 801) (kd := 1) (n := 2407) rfl (by decide)) (by decide) (show nI (269 + 5 * (sn S 5) + 1) = nI (269 + 5 * (sn S 5) + 1) from (rfl : nI (269 + 5 * (sn S 5) + 1) = nI (269 + 5 * (sn S 5) + 1))) (by omega) ?_
            refine g_setv (fun s18 es18 => ?_)
            have hMs18 : MK T tn (nxK T tn (nxK T tn (nxK T tn (nxK T tn (nxK T tn tk))))) s18 := hMs17.eq (by rw [es18, mu_ne (by decide)]) (by rw [es18, mu_ne (by decide)])
            have hEs18 : s18 800 11 = nI (spK T tn (nxK T tn (nxK T tn (nxK T tn (nxK T tn tk))))) := by rw [es18, mu_ne (by decide)]; exact hEs17
            have hGs18 : FRm sg0 s18 := by rw [es18]; exact hGs17.m801 (by omega)
            have hSs18 : s18 801 = upd (upd S (269 + 5 * (sn S 5)) (nI (numK T tn (nxK T tn tk)))) (269 + 5 * (sn S 5) + 1) (nI (numK T tn (nxK T tn (nxK T tn tk)))) := by rw [es18, mu_row, hSs17]
            refine g_pure 10 (i' := 73) (lv' := [some (vR 800), some (vI (S 5)), some (vI (nI (numK T tn (nxK T tn tk)))), some (vI (nI (numK T tn (nxK T tn (nxK T tn tk))))), some (vI (nI (numK T tn (nxK T tn (nxK T tn (nxK T tn (nxK T tn tk)))))))]) (st' := [vI (nI (numK T tn (nxK T tn (nxK T tn (nxK T tn (nxK T tn tk)))))), vI ((269 + (5 * S 5)) + 2), vR 801]) rfl ?_
            refine gW_eq (lv' := [some (vR 800), some (vI (S 5)), some (vI (nI (numK T tn (nxK T tn tk)))), some (vI (nI (numK T tn (nxK T tn (nxK T tn tk))))), some (vI (nI (numK T tn (nxK T tn (nxK T tn (nxK T tn (nxK T tn tk)))))))]) (st' := [vI (nI (numK T tn (nxK T tn (nxK T tn (nxK T tn (nxK T tn tk)))))), vI (nI (269 + 5 * (sn S 5) + 2)), vR 801]) rfl (by rw [(show ((269 + (5 * S 5)) + 2) = nI (269 + 5 * (sn S 5) + 2) from ((g_add (g_add (show (269 : Int32) = nI 269 from rfl) (g_mul (show (5 : Int32) = nI 5 from rfl) (hI.c5))) (show (2 : Int32) = nI 2 from rfl))).trans (congrArg nI (by omega)))]) rfl ?_
            refine g_ast rfl (g_A (a := 801) (kd := 1) (n := 2407) rfl (by decide)) (by decide) (show nI (269 + 5 * (sn S 5) + 2) = nI (269 + 5 * (sn S 5) + 2) from (rfl : nI (269 + 5 * (sn S 5) + 2) = nI (269 + 5 * (sn S 5) + 2))) (by omega) ?_
            refine g_setv (fun s19 es19 => ?_)
            have hMs19 : MK T tn (nxK T tn (nxK T tn (nxK T tn (nxK T tn (nxK T tn tk))))) s19 := hMs18.eq (by rw [es19, mu_ne (by decide)]) (by rw [es19, mu_ne (by decide)])
            have hEs19 : s19 800 11 = nI (spK T tn (nxK T tn (nxK T tn (nxK T tn (nxK T tn tk))))) := by rw [es19, mu_ne (by decide)]; exact hEs18
            have hGs19 : FRm sg0 s19 := by rw [es19]; exact hGs18.m801 (by omega)
            have hSs19 : s19 801 = upd (upd (upd S (269 + 5 * (sn S 5)) (nI (numK T tn (nxK T tn tk)))) (269 + 5 * (sn S 5) + 1) (nI (numK T tn (nxK T tn (nxK T tn tk))))) (269 + 5 * (sn S 5) + 2) (nI (numK T tn (nxK T tn (nxK T tn (nxK T tn (nxK T tn tk)))))) := by rw [es19, mu_row, hSs18]
            refine g_pure 10 (i' := 84) (lv' := [some (vR 800), some (vI (S 5)), some (vI (nI (numK T tn (nxK T tn tk)))), some (vI (nI (numK T tn (nxK T tn (nxK T tn tk))))), some (vI (nI (numK T tn (nxK T tn (nxK T tn (nxK T tn (nxK T tn tk)))))))]) (st' := [vI (-1), vI ((269 + (5 * S 5)) + 3), vR 801]) rfl ?_
            refine gW_eq (lv' := [some (vR 800), some (vI (S 5)), some (vI (nI (numK T tn (nxK T tn tk)))), some (vI (nI (numK T tn (nxK T tn (nxK T tn tk))))), some (vI (nI (numK T tn (nxK T tn (nxK T tn (nxK T tn (nxK T tn tk)))))))]) (st' := [vI (-1), vI (nI (269 + 5 * (sn S 5) + 3)), vR 801]) rfl (by rw [(show ((269 + (5 * S 5)) + 3) = nI (269 + 5 * (sn S 5) + 3) from ((g_add (g_add (show (269 : Int32) = nI 269 from rfl) (g_mul (show (5 : Int32) = nI 5 from rfl) (hI.c5))) (show (3 : Int32) = nI 3 from rfl))).trans (congrArg nI (by omega)))]) rfl ?_
            refine g_ast rfl (g_A (a := 801) (kd := 1) (n := 2407) rfl (by decide)) (by decide) (show nI (269 + 5 * (sn S 5) + 3) = nI (269 + 5 * (sn S 5) + 3) from (rfl : nI (269 + 5 * (sn S 5) + 3) = nI (269 + 5 * (sn S 5) + 3))) (by omega) ?_
            refine g_setv (fun s20 es20 => ?_)
            have hMs20 : MK T tn (nxK T tn (nxK T tn (nxK T tn (nxK T tn (nxK T tn tk))))) s20 := hMs19.eq (by rw [es20, mu_ne (by decide)]) (by rw [es20, mu_ne (by decide)])
            have hEs20 : s20 800 11 = nI (spK T tn (nxK T tn (nxK T tn (nxK T tn (nxK T tn tk))))) := by rw [es20, mu_ne (by decide)]; exact hEs19
            have hGs20 : FRm sg0 s20 := by rw [es20]; exact hGs19.m801 (by omega)
            have hSs20 : s20 801 = upd (upd (upd (upd S (269 + 5 * (sn S 5)) (nI (numK T tn (nxK T tn tk)))) (269 + 5 * (sn S 5) + 1) (nI (numK T tn (nxK T tn (nxK T tn tk))))) (269 + 5 * (sn S 5) + 2) (nI (numK T tn (nxK T tn (nxK T tn (nxK T tn (nxK T tn tk))))))) (269 + 5 * (sn S 5) + 3) (-1) := by rw [es20, mu_row, hSs19]
            refine g_pure 10 (i' := 95) (lv' := [some (vR 800), some (vI (S 5)), some (vI (nI (numK T tn (nxK T tn tk)))), some (vI (nI (numK T tn (nxK T tn (nxK T tn tk))))), some (vI (nI (numK T tn (nxK T tn (nxK T tn (nxK T tn (nxK T tn tk)))))))]) (st' := [vI (-1), vI ((269 + (5 * S 5)) + 4), vR 801]) rfl ?_
            refine gW_eq (lv' := [some (vR 800), some (vI (S 5)), some (vI (nI (numK T tn (nxK T tn tk)))), some (vI (nI (numK T tn (nxK T tn (nxK T tn tk))))), some (vI (nI (numK T tn (nxK T tn (nxK T tn (nxK T tn (nxK T tn tk)))))))]) (st' := [vI (-1), vI (nI (269 + 5 * (sn S 5) + 4)), vR 801]) rfl (by rw [(show ((269 + (5 * S 5)) + 4) = nI (269 + 5 * (sn S 5) + 4) from ((g_add (g_add (show (269 : Int32) = nI 269 from rfl) (g_mul (show (5 : Int32) = nI 5 from rfl) (hI.c5))) (show (4 : Int32) = nI 4 from rfl))).trans (congrArg nI (by omega)))]) rfl ?_
            refine g_ast rfl (g_A (a := 801) (kd := 1) (n := 2407) rfl (by decide)) (by decide) (show nI (269 + 5 * (sn S 5) + 4) = nI (269 + 5 * (sn S 5) + 4) from (rfl : nI (269 + 5 * (sn S 5) + 4) = nI (269 + 5 * (sn S 5) + 4))) (by omega) ?_
            refine g_setv (fun s21 es21 => ?_)
            have hMs21 : MK T tn (nxK T tn (nxK T tn (nxK T tn (nxK T tn (nxK T tn tk))))) s21 := hMs20.eq (by rw [es21, mu_ne (by decide)]) (by rw [es21, mu_ne (by decide)])
            have hEs21 : s21 800 11 = nI (spK T tn (nxK T tn (nxK T tn (nxK T tn (nxK T tn tk))))) := by rw [es21, mu_ne (by decide)]; exact hEs20
            have hGs21 : FRm sg0 s21 := by rw [es21]; exact hGs20.m801 (by omega)
            have hSs21 : s21 801 = upd (upd (upd (upd (upd S (269 + 5 * (sn S 5)) (nI (numK T tn (nxK T tn tk)))) (269 + 5 * (sn S 5) + 1) (nI (numK T tn (nxK T tn (nxK T tn tk))))) (269 + 5 * (sn S 5) + 2) (nI (numK T tn (nxK T tn (nxK T tn (nxK T tn (nxK T tn tk))))))) (269 + 5 * (sn S 5) + 3) (-1)) (269 + 5 * (sn S 5) + 4) (-1) := by rw [es21, mu_row, hSs20]
            refine g_pure 4 (i' := 100) (lv' := [some (vR 800), some (vI (S 5)), some (vI (nI (numK T tn (nxK T tn tk)))), some (vI (nI (numK T tn (nxK T tn (nxK T tn tk))))), some (vI (nI (numK T tn (nxK T tn (nxK T tn (nxK T tn (nxK T tn tk)))))))]) (st' := [vI 5, vR 801, vI 5, vR 801]) rfl ?_
            refine g_ald rfl (g_A (a := 801) (kd := 1) (n := 2407) rfl (by decide)) (by decide) (show 5 = nI 5 from (show (5 : Int32) = nI 5 from rfl)) (by decide) (show _ = S 5 from ((((((congrFun hSs21 5)).trans (upd_ne (by omega))).trans (upd_ne (by omega))).trans (upd_ne (by omega))).trans (upd_ne (by omega))).trans (upd_ne (by omega))) ?_
            refine g_pure 2 (i' := 103) (lv' := [some (vR 800), some (vI (S 5)), some (vI (nI (numK T tn (nxK T tn tk)))), some (vI (nI (numK T tn (nxK T tn (nxK T tn tk))))), some (vI (nI (numK T tn (nxK T tn (nxK T tn (nxK T tn (nxK T tn tk)))))))]) (st' := [vI (S 5 + 1), vI 5, vR 801]) rfl ?_
            refine gW_eq (lv' := [some (vR 800), some (vI (S 5)), some (vI (nI (numK T tn (nxK T tn tk)))), some (vI (nI (numK T tn (nxK T tn (nxK T tn tk))))), some (vI (nI (numK T tn (nxK T tn (nxK T tn (nxK T tn (nxK T tn tk)))))))]) (st' := [vI (nI (sn S 5 + 1)), vI 5, vR 801]) rfl (by rw [(show (S 5 + 1) = nI (sn S 5 + 1) from ((g_add (hI.c5) (show (1 : Int32) = nI 1 from rfl))).trans (congrArg nI (by omega)))]) rfl ?_
            refine g_ast rfl (g_A (a := 801) (kd := 1) (n := 2407) rfl (by decide)) (by decide) (show 5 = nI 5 from (show (5 : Int32) = nI 5 from rfl)) (by decide) ?_
            refine g_setv (fun s22 es22 => ?_)
            have hMs22 : MK T tn (nxK T tn (nxK T tn (nxK T tn (nxK T tn (nxK T tn tk))))) s22 := hMs21.eq (by rw [es22, mu_ne (by decide)]) (by rw [es22, mu_ne (by decide)])
            have hEs22 : s22 800 11 = nI (spK T tn (nxK T tn (nxK T tn (nxK T tn (nxK T tn tk))))) := by rw [es22, mu_ne (by decide)]; exact hEs21
            have hGs22 : FRm sg0 s22 := by rw [es22]; exact hGs21.m801 (by omega)
            have hSs22 : s22 801 = upd (upd (upd (upd (upd (upd S (269 + 5 * (sn S 5)) (nI (numK T tn (nxK T tn tk)))) (269 + 5 * (sn S 5) + 1) (nI (numK T tn (nxK T tn (nxK T tn tk))))) (269 + 5 * (sn S 5) + 2) (nI (numK T tn (nxK T tn (nxK T tn (nxK T tn (nxK T tn tk))))))) (269 + 5 * (sn S 5) + 3) (-1)) (269 + 5 * (sn S 5) + 4) (-1)) 5 (nI (sn S 5 + 1)) := by rw [es22, mu_row, hSs21]
            refine g_pure 1 (i' := 105) (lv' := [some (vR 800), some (vI (S 5)), some (vI (nI (numK T tn (nxK T tn tk)))), some (vI (nI (numK T tn (nxK T tn (nxK T tn tk))))), some (vI (nI (numK T tn (nxK T tn (nxK T tn (nxK T tn (nxK T tn tk)))))))]) (st' := [vI 1]) rfl ?_
            refine g_bret rfl g_nar1 ?_
            exact o1 h1 h2 s3 es3 h6 s7 es7 h10 s11 es11 h13 s14 es14 s17 es17 s18 es18 s19 es19 s20 es20 s21 es21 s22 es22 hMs22 hGs22 hEs22 hSs22
          · refine gW_eq (st' := [vI (nI (sn S 5) - 1), vI (nI 0), vR 800]) rfl (by rw [(show (0 : Int32) = nI 0 from rfl)]) rfl ?_
            refine g_cV1E rfl (args := [vR 800, vI (nI 0), vI (nI (sn S 5) - 1)]) (rest := []) rfl rfl rfl (s_196b (m := sn S 5) (d := d + 1) hMs11 (by omega) (by omega) (rfl : (nI (sn S 5) - 1 : Int32) = nI (sn S 5) - 1) (by assumption)) (fun s23 es23 => ?_)
            have hSs23 : s23 801 = S := (es23.1.1 801 (by decide)).trans hSs11
            have hEs23 := es23.2
            have hGs23 := hGs11.mf es23.1
            refine g_pure 2 (i' := 38) (lv' := [some (vR 800), some (vI (S 5)), some (vI (nI (numK T tn (nxK T tn tk)))), some (vI (nI (numK T tn (nxK T tn (nxK T tn tk))))), some (vI (-1))]) (st' := [vI (-1)]) rfl ?_
            refine g_if1 (i' := 41) (P := 0 ≤ ((-1) : Int32)) rfl rfl Iff.rfl (fun h24 => absurd h24 (by decide)) (fun _ => ?_)
            refine g_pure 1 (i' := 40) (lv' := [some (vR 800), some (vI (S 5)), some (vI (nI (numK T tn (nxK T tn tk)))), some (vI (nI (numK T tn (nxK T tn (nxK T tn tk))))), some (vI (-1))]) (st' := [vI 0]) rfl ?_
            refine g_bret rfl g_nar0 ?_
            exact o2 h1 h2 s3 es3 h6 s7 es7 h10 s11 es11 h13 s23 es23 hGs23 hEs23 hSs23
        · refine g_cV1E rfl (args := [vR 800, vS 59]) (rest := []) rfl rfl rfl (s_214b (d := d + 1) (by decide) (wL_of (by decide)) hMs7 (show ¬ isW T tn (nxK T tn (nxK T tn (nxK T tn tk))) (am_SL 59) from (by assumption : ¬ isW T tn (nxK T tn (nxK T tn (nxK T tn tk))) (am_SL 11)))) (fun s25 es25 => ?_)
          have hSs25 : s25 801 = S := (es25.2.1.1 801 (by decide)).trans hSs7
          have hMs25 := es25.1
          have hEs25 := es25.2.2
          have hGs25 := hGs7.mf es25.2.1
          refine g_if1 (i' := 41) (P := 0 = 0) rfl rfl (g_eqN (show 0 = nI 0 from (show (0 : Int32) = nI 0 from rfl)) (show 0 = nI 0 from (show (0 : Int32) = nI 0 from rfl)) (by omega) (by omega)) (fun _ => ?_) (fun h26 => absurd (by omega) h26)
          refine g_pure 10 (i' := 51) (lv' := [some (vR 800), some (vI (S 5)), some (vI (nI (numK T tn (nxK T tn tk)))), some (vI (nI (numK T tn (nxK T tn (nxK T tn tk))))), some (vI (-1))]) (st' := [vI (nI (numK T tn (nxK T tn tk))), vI ((269 + (5 * S 5)) + 0), vR 801]) rfl ?_
          refine gW_eq (lv' := [some (vR 800), some (vI (S 5)), some (vI (nI (numK T tn (nxK T tn tk)))), some (vI (nI (numK T tn (nxK T tn (nxK T tn tk))))), some (vI (-1))]) (st' := [vI (nI (numK T tn (nxK T tn tk))), vI (nI (269 + 5 * (sn S 5))), vR 801]) rfl (by rw [(show ((269 + (5 * S 5)) + 0) = nI (269 + 5 * (sn S 5)) from ((g_add (g_add (show (269 : Int32) = nI 269 from rfl) (g_mul (show (5 : Int32) = nI 5 from rfl) (hI.c5))) (show (0 : Int32) = nI 0 from rfl))).trans (congrArg nI (by omega)))]) rfl ?_
          refine g_ast rfl (g_A (a := 801) (kd := 1) (n := 2407) rfl (by decide)) (by decide) (show nI (269 + 5 * (sn S 5)) = nI (269 + 5 * (sn S 5)) from (rfl : nI (269 + 5 * (sn S 5)) = nI (269 + 5 * (sn S 5)))) (by omega) ?_
          refine g_setv (fun s27 es27 => ?_)
          have hMs27 : MK T tn (nxK T tn (nxK T tn (nxK T tn tk))) s27 := hMs25.eq (by rw [es27, mu_ne (by decide)]) (by rw [es27, mu_ne (by decide)])
          have hEs27 : s27 800 11 = nI (spK T tn (nxK T tn (nxK T tn (nxK T tn tk)))) := by rw [es27, mu_ne (by decide)]; exact hEs25
          have hGs27 : FRm sg0 s27 := by rw [es27]; exact hGs25.m801 (by omega)
          have hSs27 : s27 801 = upd S (269 + 5 * (sn S 5)) (nI (numK T tn (nxK T tn tk))) := by rw [es27, mu_row, hSs25]
          refine g_pure 10 (i' := 62) (lv' := [some (vR 800), some (vI (S 5)), some (vI (nI (numK T tn (nxK T tn tk)))), some (vI (nI (numK T tn (nxK T tn (nxK T tn tk))))), some (vI (-1))]) (st' := [vI (nI (numK T tn (nxK T tn (nxK T tn tk)))), vI ((269 + (5 * S 5)) + 1), vR 801]) rfl ?_
          refine gW_eq (lv' := [some (vR 800), some (vI (S 5)), some (vI (nI (numK T tn (nxK T tn tk)))), some (vI (nI (numK T tn (nxK T tn (nxK T tn tk))))), some (vI (-1))]) (st' := [vI (nI (numK T tn (nxK T tn (nxK T tn tk)))), vI (nI (269 + 5 * (sn S 5) + 1)), vR 801]) rfl (by rw [(show ((269 + (5 * S 5)) + 1) = nI (269 + 5 * (sn S 5) + 1) from ((g_add (g_add (show (269 : Int32) = nI 269 from rfl) (g_mul (show (5 : Int32) = nI 5 from rfl) (hI.c5))) (show (1 : Int32) = nI 1 from rfl))).trans (congrArg nI (by omega)))]) rfl ?_
          refine g_ast rfl (g_A (a := 801) (kd := 1) (n := 2407) rfl (by decide)) (by decide) (show nI (269 + 5 * (sn S 5) + 1) = nI (269 + 5 * (sn S 5) + 1) from (rfl : nI (269 + 5 * (sn S 5) + 1) = nI (269 + 5 * (sn S 5) + 1))) (by omega) ?_
          refine g_setv (fun s28 es28 => ?_)
          have hMs28 : MK T tn (nxK T tn (nxK T tn (nxK T tn tk))) s28 := hMs27.eq (by rw [es28, mu_ne (by decide)]) (by rw [es28, mu_ne (by decide)])
          have hEs28 : s28 800 11 = nI (spK T tn (nxK T tn (nxK T tn (nxK T tn tk)))) := by rw [es28, mu_ne (by decide)]; exact hEs27
          have hGs28 : FRm sg0 s28 := by rw [es28]; exact hGs27.m801 (by omega)
          have hSs28 : s28 801 = upd (upd S (269 + 5 * (sn S 5)) (nI (numK T tn (nxK T tn tk)))) (269 + 5 * (sn S 5) + 1) (nI (numK T tn (nxK T tn (nxK T tn tk)))) := by rw [es28, mu_row, hSs27]
          refine g_pure 10 (i' := 73) (lv' := [some (vR 800), some (vI (S 5)), some (vI (nI (numK T tn (nxK T tn tk)))), some (vI (nI (numK T tn (nxK T tn (nxK T tn tk))))), some (vI (-1))]) (st' := [vI (-1), vI ((269 + (5 * S 5)) + 2), vR 801]) rfl ?_
          refine gW_eq (lv' := [some (vR 800), some (vI (S 5)), some (vI (nI (numK T tn (nxK T tn tk)))), some (vI (nI (numK T tn (nxK T tn (nxK T tn tk))))), some (vI (-1))]) (st' := [vI (-1), vI (nI (269 + 5 * (sn S 5) + 2)), vR 801]) rfl (by rw [(show ((269 + (5 * S 5)) + 2) = nI (269 + 5 * (sn S 5) + 2) from ((g_add (g_add (show (269 : Int32) = nI 269 from rfl) (g_mul (show (5 : Int32) = nI 5 from rfl) (hI.c5))) (show (2 : Int32) = nI 2 from rfl))).trans (congrArg nI (by omega)))]) rfl ?_
          refine g_ast rfl (g_A (a := 801) (kd := 1) (n := 2407) rfl (by decide)) (by decide) (show nI (269 + 5 * (sn S 5) + 2) = nI (269 + 5 * (sn S 5) + 2) from (rfl : nI (269 + 5 * (sn S 5) + 2) = nI (269 + 5 * (sn S 5) + 2))) (by omega) ?_
          refine g_setv (fun s29 es29 => ?_)
          have hMs29 : MK T tn (nxK T tn (nxK T tn (nxK T tn tk))) s29 := hMs28.eq (by rw [es29, mu_ne (by decide)]) (by rw [es29, mu_ne (by decide)])
          have hEs29 : s29 800 11 = nI (spK T tn (nxK T tn (nxK T tn (nxK T tn tk)))) := by rw [es29, mu_ne (by decide)]; exact hEs28
          have hGs29 : FRm sg0 s29 := by rw [es29]; exact hGs28.m801 (by omega)
          have hSs29 : s29 801 = upd (upd (upd S (269 + 5 * (sn S 5)) (nI (numK T tn (nxK T tn tk)))) (269 + 5 * (sn S 5) + 1) (nI (numK T tn (nxK T tn (nxK T tn tk))))) (269 + 5 * (sn S 5) + 2) (-1) := by rw [es29, mu_row, hSs28]
          refine g_pure 10 (i' := 84) (lv' := [some (vR 800), some (vI (S 5)), some (vI (nI (numK T tn (nxK T tn tk)))), some (vI (nI (numK T tn (nxK T tn (nxK T tn tk))))), some (vI (-1))]) (st' := [vI (-1), vI ((269 + (5 * S 5)) + 3), vR 801]) rfl ?_
          refine gW_eq (lv' := [some (vR 800), some (vI (S 5)), some (vI (nI (numK T tn (nxK T tn tk)))), some (vI (nI (numK T tn (nxK T tn (nxK T tn tk))))), some (vI (-1))]) (st' := [vI (-1), vI (nI (269 + 5 * (sn S 5) + 3)), vR 801]) rfl (by rw [(show ((269 + (5 * S 5)) + 3) = nI (269 + 5 * (sn S 5) + 3) from ((g_add (g_add (show (269 : Int32) = nI 269 from rfl) (g_mul (show (5 : Int32) = nI 5 from rfl) (hI.c5))) (show (3 : Int32) = nI 3 from rfl))).trans (congrArg nI (by omega)))]) rfl ?_
          refine g_ast rfl (g_A (a := 801) (kd := 1) (n := 2407) rfl (by decide)) (by decide) (show nI (269 + 5 * (sn S 5) + 3) = nI (269 + 5 * (sn S 5) + 3) from (rfl : nI (269 + 5 * (sn S 5) + 3) = nI (269 + 5 * (sn S 5) + 3))) (by omega) ?_
          refine g_setv (fun s30 es30 => ?_)
          have hMs30 : MK T tn (nxK T tn (nxK T tn (nxK T tn tk))) s30 := hMs29.eq (by rw [es30, mu_ne (by decide)]) (by rw [es30, mu_ne (by decide)])
          have hEs30 : s30 800 11 = nI (spK T tn (nxK T tn (nxK T tn (nxK T tn tk)))) := by rw [es30, mu_ne (by decide)]; exact hEs29
          have hGs30 : FRm sg0 s30 := by rw [es30]; exact hGs29.m801 (by omega)
          have hSs30 : s30 801 = upd (upd (upd (upd S (269 + 5 * (sn S 5)) (nI (numK T tn (nxK T tn tk)))) (269 + 5 * (sn S 5) + 1) (nI (numK T tn (nxK T tn (nxK T tn tk))))) (269 + 5 * (sn S 5) + 2) (-1)) (269 + 5 * (sn S 5) + 3) (-1) := by rw [es30, mu_row, hSs29]
          refine g_pure 10 (i' := 95) (lv' := [some (vR 800), some (vI (S 5)), some (vI (nI (numK T tn (nxK T tn tk)))), some (vI (nI (numK T tn (nxK T tn (nxK T tn tk))))), some (vI (-1))]) (st' := [vI (-1), vI ((269 + (5 * S 5)) + 4), vR 801]) rfl ?_
          refine gW_eq (lv' := [some (vR 800), some (vI (S 5)), some (vI (nI (numK T tn (nxK T tn tk)))), some (vI (nI (numK T tn (nxK T tn (nxK T tn tk))))), some (vI (-1))]) (st' := [vI (-1), vI (nI (269 + 5 * (sn S 5) + 4)), vR 801]) rfl (by rw [(show ((269 + (5 * S 5)) + 4) = nI (269 + 5 * (sn S 5) + 4) from ((g_add (g_add (show (269 : Int32) = nI 269 from rfl) (g_mul (show (5 : Int32) = nI 5 from rfl) (hI.c5))) (show (4 : Int32) = nI 4 from rfl))).trans (congrArg nI (by omega)))]) rfl ?_
          refine g_ast rfl (g_A (a := 801) (kd := 1) (n := 2407) rfl (by decide)) (by decide) (show nI (269 + 5 * (sn S 5) + 4) = nI (269 + 5 * (sn S 5) + 4) from (rfl : nI (269 + 5 * (sn S 5) + 4) = nI (269 + 5 * (sn S 5) + 4))) (by omega) ?_
          refine g_setv (fun s31 es31 => ?_)
          have hMs31 : MK T tn (nxK T tn (nxK T tn (nxK T tn tk))) s31 := hMs30.eq (by rw [es31, mu_ne (by decide)]) (by rw [es31, mu_ne (by decide)])
          have hEs31 : s31 800 11 = nI (spK T tn (nxK T tn (nxK T tn (nxK T tn tk)))) := by rw [es31, mu_ne (by decide)]; exact hEs30
          have hGs31 : FRm sg0 s31 := by rw [es31]; exact hGs30.m801 (by omega)
          have hSs31 : s31 801 = upd (upd (upd (upd (upd S (269 + 5 * (sn S 5)) (nI (numK T tn (nxK T tn tk)))) (269 + 5 * (sn S 5) + 1) (nI (numK T tn (nxK T tn (nxK T tn tk))))) (269 + 5 * (sn S 5) + 2) (-1)) (269 + 5 * (sn S 5) + 3) (-1)) (269 + 5 * (sn S 5) + 4) (-1) := by rw [es31, mu_row, hSs30]
          refine g_pure 4 (i' := 100) (lv' := [some (vR 800), some (vI (S 5)), some (vI (nI (numK T tn (nxK T tn tk)))), some (vI (nI (numK T tn (nxK T tn (nxK T tn tk))))), some (vI (-1))]) (st' := [vI 5, vR 801, vI 5, vR 801]) rfl ?_
          refine g_ald rfl (g_A (a := 801) (kd := 1) (n := 2407) rfl (by decide)) (by decide) (show 5 = nI 5 from (show (5 : Int32) = nI 5 from rfl)) (by decide) (show _ = S 5 from ((((((congrFun hSs31 5)).trans (upd_ne (by omega))).trans (upd_ne (by omega))).trans (upd_ne (by omega))).trans (upd_ne (by omega))).trans (upd_ne (by omega))) ?_
          refine g_pure 2 (i' := 103) (lv' := [some (vR 800), some (vI (S 5)), some (vI (nI (numK T tn (nxK T tn tk)))), some (vI (nI (numK T tn (nxK T tn (nxK T tn tk))))), some (vI (-1))]) (st' := [vI (S 5 + 1), vI 5, vR 801]) rfl ?_
          refine gW_eq (lv' := [some (vR 800), some (vI (S 5)), some (vI (nI (numK T tn (nxK T tn tk)))), some (vI (nI (numK T tn (nxK T tn (nxK T tn tk))))), some (vI (-1))]) (st' := [vI (nI (sn S 5 + 1)), vI 5, vR 801]) rfl (by rw [(show (S 5 + 1) = nI (sn S 5 + 1) from ((g_add (hI.c5) (show (1 : Int32) = nI 1 from rfl))).trans (congrArg nI (by omega)))]) rfl ?_
          refine g_ast rfl (g_A (a := 801) (kd := 1) (n := 2407) rfl (by decide)) (by decide) (show 5 = nI 5 from (show (5 : Int32) = nI 5 from rfl)) (by decide) ?_
          refine g_setv (fun s32 es32 => ?_)
          have hMs32 : MK T tn (nxK T tn (nxK T tn (nxK T tn tk))) s32 := hMs31.eq (by rw [es32, mu_ne (by decide)]) (by rw [es32, mu_ne (by decide)])
          have hEs32 : s32 800 11 = nI (spK T tn (nxK T tn (nxK T tn (nxK T tn tk)))) := by rw [es32, mu_ne (by decide)]; exact hEs31
          have hGs32 : FRm sg0 s32 := by rw [es32]; exact hGs31.m801 (by omega)
          have hSs32 : s32 801 = upd (upd (upd (upd (upd (upd S (269 + 5 * (sn S 5)) (nI (numK T tn (nxK T tn tk)))) (269 + 5 * (sn S 5) + 1) (nI (numK T tn (nxK T tn (nxK T tn tk))))) (269 + 5 * (sn S 5) + 2) (-1)) (269 + 5 * (sn S 5) + 3) (-1)) (269 + 5 * (sn S 5) + 4) (-1)) 5 (nI (sn S 5 + 1)) := by rw [es32, mu_row, hSs31]
          refine g_pure 1 (i' := 105) (lv' := [some (vR 800), some (vI (S 5)), some (vI (nI (numK T tn (nxK T tn tk)))), some (vI (nI (numK T tn (nxK T tn (nxK T tn tk))))), some (vI (-1))]) (st' := [vI 1]) rfl ?_
          refine g_bret rfl g_nar1 ?_
          exact o3 h1 h2 s3 es3 h6 s7 es7 h10 s25 es25 s27 es27 s28 es28 s29 es29 s30 es30 s31 es31 s32 es32 hMs32 hGs32 hEs32 hSs32
      · refine g_cV1E rfl (args := [vR 800]) (rest := []) rfl rfl rfl (s_200b (d := d) hMs3 (((congrFun hSs3 9)).trans (hI.c9)) (by omega) (by assumption)) (fun s33 es33 => ?_)
        have hSs33 : s33 801 = S := (es33.1.1 801 (by decide)).trans hSs3
        have hEs33 := es33.2
        have hGs33 := hGs3.mf es33.1
        refine g_pure 2 (i' := 21) (lv' := [some (vR 800), some (vI (S 5)), some (vI (nI (numK T tn (nxK T tn tk)))), some (vI (-1)), none]) (st' := [vI (-1)]) rfl ?_
        refine g_if1 (i' := 24) (P := 0 ≤ ((-1) : Int32)) rfl rfl Iff.rfl (fun h34 => absurd h34 (by decide)) (fun _ => ?_)
        refine g_pure 1 (i' := 23) (lv' := [some (vR 800), some (vI (S 5)), some (vI (nI (numK T tn (nxK T tn tk)))), some (vI (-1)), none]) (st' := [vI 0]) rfl ?_
        refine g_bret rfl g_nar0 ?_
        exact o4 h1 h2 s3 es3 h6 s33 es33 hGs33 hEs33 hSs33
    · refine g_cV1E rfl (args := [vR 800]) (rest := []) rfl rfl rfl (s_204b (d := d) hM (((congrFun hS 0)).trans (hI.c0)) (by omega) (by assumption)) (fun s35 es35 => ?_)
      have hSs35 : s35 801 = S := (es35.1.1 801 (by decide)).trans hS
      have hEs35 := es35.2
      have hGs35 := hG.mf es35.1
      refine g_pure 2 (i' := 14) (lv' := [some (vR 800), some (vI (S 5)), some (vI (-1)), none, none]) (st' := [vI (-1)]) rfl ?_
      refine g_if1 (i' := 17) (P := 0 ≤ ((-1) : Int32)) rfl rfl Iff.rfl (fun h36 => absurd h36 (by decide)) (fun _ => ?_)
      refine g_pure 4 (i' := 21) (lv' := [some (vR 800), some (vI (S 5)), some (vI (-1)), some (vI (-1)), none]) (st' := [vI (-1)]) rfl ?_
      refine g_if1 (i' := 24) (P := 0 ≤ ((-1) : Int32)) rfl rfl Iff.rfl (fun h37 => absurd h37 (by decide)) (fun _ => ?_)
      refine g_pure 1 (i' := 23) (lv' := [some (vR 800), some (vI (S 5)), some (vI (-1)), some (vI (-1)), none]) (st' := [vI 0]) rfl ?_
      refine g_bret rfl g_nar0 ?_
      exact o5 h1 h2 s35 es35 hGs35 hEs35 hSs35
  · have h1 := Classical.not_not.mp h1
    refine g_pure 1 (i' := 9) (lv' := [some (vR 800), some (vI (S 5)), none, none, none]) (st' := [vI 0]) rfl ?_
    refine g_bret rfl g_nar0 ?_
    exact o6 h1 hM hG hE hS

theorem s_213 {X : Nat × (Nat → Int32)} {d : Nat} {p : Nat → Nat} {sg : Mg} {B : Nat} {S : Nat → Int32} (hI : Inv B S) (hS : sg 801 = S) {T : Nat → Int32} {tn tk : Nat} (hM : MK T tn (nxK T tn tk) sg) (hE : sg 800 11 = nI (spK T tn tk)) : gF X (d + 6) 213 [vR 800] p sg (lnM (prTas T tn tk S) T tn sg p) := by
  have b0 := hI.b0; have b1 := hI.b1; have b2 := hI.b2; have b3 := hI.b3; have b4 := hI.b4; have b5 := hI.b5; have b6 := hI.b6; have b7 := hI.b7; have b8 := hI.b8; have b9 := hI.b9; have b14 := hI.b14
  refine g_in (cd := k_213) (nL := 5) (rc := 13) rfl (g_A (a := 800) (kd := 0) (n := 12) rfl (by decide)) (g_c1 rfl) (b_213_0 hI hS hM hE (FRm.rf sg) ?_ ?_ ?_ ?_ ?_ ?_)
  · intro h0 h1 s2 e2 h3 s4 e4 h5 s6 e6 h7 s8 e8 s9 e9 s10 e10 s11 e11 s12 e12 s13 e13 s14 e14 cM cG cE cS
    have g0 : sn S 5 < 8 := by omega
    have e : prTas T tn tk S = .inr (nxK T tn (nxK T tn (nxK T tn (nxK T tn (nxK T tn tk)))), (upd (upd (upd (upd (upd (upd S (269 + 5 * (sn S 5)) (nI (numK T tn (nxK T tn tk)))) (269 + 5 * (sn S 5) + 1) (nI (numK T tn (nxK T tn (nxK T tn tk))))) (269 + 5 * (sn S 5) + 2) (nI (numK T tn (nxK T tn (nxK T tn (nxK T tn (nxK T tn tk))))))) (269 + 5 * (sn S 5) + 3) (-1)) (269 + 5 * (sn S 5) + 4) (-1)) 5 (nI (sn S 5 + 1)))) := by simp only [prTas, tkN, g0, h1, h3, h5, h7, sel_T, sel_F, not_true_eq_false, not_false_eq_true, and_true, true_and, and_false, false_and, and_self, ne_eq, dcN_p, upd_upd]
    rw [e]
    exact ⟨_, ⟨cG, cM, cS⟩, rfl⟩
  · intro h0 h1 s2 e2 h3 s4 e4 h5 s6 e6 h7 s8 e8 cG cE cS
    have g0 : sn S 5 < 8 := by omega
    have e : prTas T tn tk S = .inl (spK T tn (nxK T tn (nxK T tn (nxK T tn (nxK T tn tk))))) := by simp only [prTas, tkN, g0, h1, h3, h5, h7, sel_T, sel_F, not_true_eq_false, not_false_eq_true, and_true, true_and, and_false, false_and, and_self, ne_eq, dcN_p, upd_upd]
    rw [e]
    exact ⟨_, ⟨cG, cE⟩, rfl⟩
  · intro h0 h1 s2 e2 h3 s4 e4 h5 s6 e6 s7 e7 s8 e8 s9 e9 s10 e10 s11 e11 s12 e12 cM cG cE cS
    have g0 : sn S 5 < 8 := by omega
    have e : prTas T tn tk S = .inr (nxK T tn (nxK T tn (nxK T tn tk)), (upd (upd (upd (upd (upd (upd S (269 + 5 * (sn S 5)) (nI (numK T tn (nxK T tn tk)))) (269 + 5 * (sn S 5) + 1) (nI (numK T tn (nxK T tn (nxK T tn tk))))) (269 + 5 * (sn S 5) + 2) (-1)) (269 + 5 * (sn S 5) + 3) (-1)) (269 + 5 * (sn S 5) + 4) (-1)) 5 (nI (sn S 5 + 1)))) := by simp only [prTas, tkN, g0, h1, h3, h5, sel_T, sel_F, not_true_eq_false, not_false_eq_true, and_true, true_and, and_false, false_and, and_self, ne_eq, dcN_p, upd_upd]
    rw [e]
    exact ⟨_, ⟨cG, cM, cS⟩, rfl⟩
  · intro h0 h1 s2 e2 h3 s4 e4 cG cE cS
    have g0 : sn S 5 < 8 := by omega
    have e : prTas T tn tk S = .inl (spK T tn (nxK T tn (nxK T tn tk))) := by simp only [prTas, tkN, g0, h1, h3, sel_T, sel_F, not_true_eq_false, not_false_eq_true, and_true, true_and, and_false, false_and, and_self, ne_eq, dcN_p, upd_upd]
    rw [e]
    exact ⟨_, ⟨cG, cE⟩, rfl⟩
  · intro h0 h1 s2 e2 cG cE cS
    have g0 : sn S 5 < 8 := by omega
    have e : prTas T tn tk S = .inl (spK T tn (nxK T tn tk)) := by simp only [prTas, tkN, g0, h1, sel_T, sel_F, not_true_eq_false, not_false_eq_true, and_true, true_and, and_false, false_and, and_self, ne_eq, dcN_p, upd_upd]
    rw [e]
    exact ⟨_, ⟨cG, cE⟩, rfl⟩
  · intro h0 cM cG cE cS
    have g0 : ¬ sn S 5 < 8 := by omega
    have e : prTas T tn tk S = .inl (spK T tn tk) := by simp only [prTas, tkN, g0, sel_T, sel_F, not_true_eq_false, not_false_eq_true, and_true, true_and, and_false, false_and, and_self, ne_eq, dcN_p, upd_upd]
    rw [e]
    exact ⟨_, ⟨cG, cE⟩, rfl⟩

theorem b_194_0 {X : Nat × (Nat → Int32)} {d : Nat} {p : Nat → Nat} {sg : Mg} {Q : am_R → Prop} {B : Nat} {S : Nat → Int32} (hI : Inv B S) (hS : sg 801 = S) {T : Nat → Int32} {tn tk : Nat} (hM : MK T tn (nxK T tn tk) sg) (hE : sg 800 11 = nI (spK T tn tk)) {sg0 : Mg} (hG : FRm sg0 sg)
    (o1 : (sn S 0 ≤ 0) → (tkP T tn (nxK T tn tk) 4 3 17) → ∀ s3 : Mg, (MK T tn (nxK T tn (nxK T tn tk)) s3 ∧ NR T tn (nxK T tn tk) sg s3) → ∀ s6 : Mg, s6 = mu s3 801 9 (nI (numK T tn (nxK T tn tk))) → ∀ s7 : Mg, s7 = mu s6 801 10 (S 10 &&& ((1 <<< (nI (numK T tn (nxK T tn tk)) &&& 31)) - 1)) → MK T tn (nxK T tn (nxK T tn tk)) s7 → FRm sg0 s7 → s7 800 11 = nI (spK T tn (nxK T tn tk)) → s7 801 = (upd (upd S 9 (nI (numK T tn (nxK T tn tk)))) 10 (S 10 &&& ((1 <<< (nI (numK T tn (nxK T tn tk)) &&& 31)) - 1))) → Q (gRv p s7 1))
    (o2 : (sn S 0 ≤ 0) → (¬ tkP T tn (nxK T tn tk) 4 3 17) → ∀ s8 : Mg, (NR T tn (nxK T tn tk) sg s8) → FRm sg0 s8 → s8 800 11 = nI (spK T tn (nxK T tn tk)) → s8 801 = S → Q (gRv p s8 0))
    (o3 : (¬ (sn S 0 ≤ 0)) → MK T tn (nxK T tn tk) sg → FRm sg0 sg → sg 800 11 = nI (spK T tn tk) → sg 801 = S → Q (gRv p sg 0)) :
    gW X (d + 5) k_194 0 [some (vR 800), none] [] p sg Q := by
  have b0 := hI.b0; have b1 := hI.b1; have b2 := hI.b2; have b3 := hI.b3; have b4 := hI.b4; have b5 := hI.b5; have b6 := hI.b6; have b7 := hI.b7; have b8 := hI.b8; have b9 := hI.b9; have b14 := hI.b14
  refine g_pure 1 (i' := 1) (lv' := [some (vR 800), none]) (st' := [vR 800]) rfl ?_
  refine g_cV1 rfl (args := [vR 800]) (rest := []) rfl rfl rfl (s_195 (d := d + 4) hS) ?_
  refine g_if1 (i' := 5) (P := sn S 0 ≤ 0) rfl rfl (g_leN (show S 0 = nI (sn S 0) from (hI.c0)) (show 0 = nI 0 from (show (0 : Int32) = nI 0 from rfl)) (by omega) (by omega)) (fun h1 => ?_) (fun h1 => ?_)
  · refine g_pure 3 (i' := 8) (lv' := [some (vR 800), none]) (st' := [vI 16, vI 3, vR 800]) rfl ?_
    by_cases h2 : tkP T tn (nxK T tn tk) 4 3 17
    · refine gW_eq (st' := [vI 16, vI (nI 3), vR 800]) rfl (by rw [(show (3 : Int32) = nI 3 from rfl)]) rfl ?_
      refine g_cV1E rfl (args := [vR 800, vI (nI 3), vI 16]) (rest := []) rfl rfl rfl (s_196a (m := 17) (d := d + 1) hM (by omega) (by omega) (show (16 : Int32) = nI 17 - 1 from by decide) (by assumption)) (fun s3 es3 => ?_)
      have hSs3 : s3 801 = S := (es3.2.1.1 801 (by decide)).trans hS
      have hMs3 := es3.1
      have hEs3 := es3.2.2
      have hGs3 := hG.mf es3.2.1
      have t4 := (show tkP T tn (nxK T tn tk) 4 3 17 by assumption).2.2
      refine g_pure 2 (i' := 11) (lv' := [some (vR 800), some (vI (nI (numK T tn (nxK T tn tk))))]) (st' := [vI (nI (numK T tn (nxK T tn tk)))]) rfl ?_
      refine g_if1 (i' := 14) (P := 0 ≤ numK T tn (nxK T tn tk)) rfl rfl (g_geN (show nI (numK T tn (nxK T tn tk)) = nI (numK T tn (nxK T tn tk)) from (rfl : nI (numK T tn (nxK T tn tk)) = nI (numK T tn (nxK T tn tk)))) (show 0 = nI 0 from (show (0 : Int32) = nI 0 from rfl)) (by omega) (by omega)) (fun _ => ?_) (fun h5 => absurd (by omega) h5)
      refine g_pure 4 (i' := 18) (lv' := [some (vR 800), some (vI (nI (numK T tn (nxK T tn tk))))]) (st' := [vI (nI (numK T tn (nxK T tn tk))), vI 9, vR 801]) rfl ?_
      refine g_ast rfl (g_A (a := 801) (kd := 1) (n := 2407) rfl (by decide)) (by decide) (show 9 = nI 9 from (show (9 : Int32) = nI 9 from rfl)) (by decide) ?_
      refine g_setv (fun s6 es6 => ?_)
      have hMs6 : MK T tn (nxK T tn (nxK T tn tk)) s6 := hMs3.eq (by rw [es6, mu_ne (by decide)]) (by rw [es6, mu_ne (by decide)])
      have hEs6 : s6 800 11 = nI (spK T tn (nxK T tn tk)) := by rw [es6, mu_ne (by decide)]; exact hEs3
      have hGs6 : FRm sg0 s6 := by rw [es6]; exact hGs3.m801 (by omega)
      have hSs6 : s6 801 = upd S 9 (nI (numK T tn (nxK T tn tk))) := by rw [es6, mu_row, hSs3]
      refine g_pure 4 (i' := 23) (lv' := [some (vR 800), some (vI (nI (numK T tn (nxK T tn tk))))]) (st' := [vI 10, vR 801, vI 10, vR 801]) rfl ?_
      refine g_ald rfl (g_A (a := 801) (kd := 1) (n := 2407) rfl (by decide)) (by decide) (show 10 = nI 10 from (show (10 : Int32) = nI 10 from rfl)) (by decide) (show _ = S 10 from ((congrFun hSs6 10)).trans (upd_ne (by omega))) ?_
      refine g_pure 6 (i' := 30) (lv' := [some (vR 800), some (vI (nI (numK T tn (nxK T tn tk))))]) (st' := [vI (S 10 &&& ((1 <<< (nI (numK T tn (nxK T tn tk)) &&& 31)) - 1)), vI 10, vR 801]) rfl ?_
      refine g_ast rfl (g_A (a := 801) (kd := 1) (n := 2407) rfl (by decide)) (by decide) (show 10 = nI 10 from (show (10 : Int32) = nI 10 from rfl)) (by decide) ?_
      refine g_setv (fun s7 es7 => ?_)
      have hMs7 : MK T tn (nxK T tn (nxK T tn tk)) s7 := hMs6.eq (by rw [es7, mu_ne (by decide)]) (by rw [es7, mu_ne (by decide)])
      have hEs7 : s7 800 11 = nI (spK T tn (nxK T tn tk)) := by rw [es7, mu_ne (by decide)]; exact hEs6
      have hGs7 : FRm sg0 s7 := by rw [es7]; exact hGs6.m801 (by omega)
      have hSs7 : s7 801 = upd (upd S 9 (nI (numK T tn (nxK T tn tk)))) 10 (S 10 &&& ((1 <<< (nI (numK T tn (nxK T tn tk)) &&& 31)) - 1)) := by rw [es7, mu_row, hSs6]
      refine g_pure 1 (i' := 32) (lv' := [some (vR 800), some (vI (nI (numK T tn (nxK T tn tk))))]) (st' := [vI 1]) rfl ?_
      refine g_bret rfl g_nar1 ?_
      exact o1 h1 h2 s3 es3 s6 es6 s7 es7 hMs7 hGs7 hEs7 hSs7
    · refine gW_eq (st' := [vI 16, vI (nI 3), vR 800]) rfl (by rw [(show (3 : Int32) = nI 3 from rfl)]) rfl ?_
      refine g_cV1E rfl (args := [vR 800, vI (nI 3), vI 16]) (rest := []) rfl rfl rfl (s_196b (m := 17) (d := d + 1) hM (by omega) (by omega) (show (16 : Int32) = nI 17 - 1 from by decide) (by assumption)) (fun s8 es8 => ?_)
      have hSs8 : s8 801 = S := (es8.1.1 801 (by decide)).trans hS
      have hEs8 := es8.2
      have hGs8 := hG.mf es8.1
      refine g_pure 2 (i' := 11) (lv' := [some (vR 800), some (vI (-1))]) (st' := [vI (-1)]) rfl ?_
      refine g_if1 (i' := 14) (P := 0 ≤ ((-1) : Int32)) rfl rfl Iff.rfl (fun h9 => absurd h9 (by decide)) (fun _ => ?_)
      refine g_pure 1 (i' := 13) (lv' := [some (vR 800), some (vI (-1))]) (st' := [vI 0]) rfl ?_
      refine g_bret rfl g_nar0 ?_
      exact o2 h1 h2 s8 es8 hGs8 hEs8 hSs8
  · refine g_pure 1 (i' := 4) (lv' := [some (vR 800), none]) (st' := [vI 0]) rfl ?_
    refine g_bret rfl g_nar0 ?_
    exact o3 h1 hM hG hE hS

theorem s_194 {X : Nat × (Nat → Int32)} {d : Nat} {p : Nat → Nat} {sg : Mg} {B : Nat} {S : Nat → Int32} (hI : Inv B S) (hS : sg 801 = S) {T : Nat → Int32} {tn tk : Nat} (hM : MK T tn (nxK T tn tk) sg) (hE : sg 800 11 = nI (spK T tn tk)) : gF X (d + 6) 194 [vR 800] p sg (lnM (prDay T tn tk S) T tn sg p) := by
  have b0 := hI.b0; have b1 := hI.b1; have b2 := hI.b2; have b3 := hI.b3; have b4 := hI.b4; have b5 := hI.b5; have b6 := hI.b6; have b7 := hI.b7; have b8 := hI.b8; have b9 := hI.b9; have b14 := hI.b14
  refine g_in (cd := k_194) (nL := 2) (rc := 13) rfl (g_A (a := 800) (kd := 0) (n := 12) rfl (by decide)) (g_c1 rfl) (b_194_0 hI hS hM hE (FRm.rf sg) ?_ ?_ ?_)
  · intro h0 h1 s2 e2 s3 e3 s4 e4 cM cG cE cS
    have e : prDay T tn tk S = .inr (nxK T tn (nxK T tn tk), (upd (upd S 9 (nI (numK T tn (nxK T tn tk)))) 10 (S 10 &&& ((1 <<< (nI (numK T tn (nxK T tn tk)) &&& 31)) - 1)))) := by simp only [prDay, tkN, h0, h1, sel_T, sel_F, not_true_eq_false, not_false_eq_true, and_true, true_and, and_false, false_and, and_self, ne_eq, dcN_p, upd_upd]
    rw [e]
    exact ⟨_, ⟨cG, cM, cS⟩, rfl⟩
  · intro h0 h1 s2 e2 cG cE cS
    have e : prDay T tn tk S = .inl (spK T tn (nxK T tn tk)) := by simp only [prDay, tkN, h0, h1, sel_T, sel_F, not_true_eq_false, not_false_eq_true, and_true, true_and, and_false, false_and, and_self, ne_eq, dcN_p, upd_upd]
    rw [e]
    exact ⟨_, ⟨cG, cE⟩, rfl⟩
  · intro h0 cM cG cE cS
    have e : prDay T tn tk S = .inl (spK T tn tk) := by simp only [prDay, tkN, h0, sel_T, sel_F, not_true_eq_false, not_false_eq_true, and_true, true_and, and_false, false_and, and_self, ne_eq, dcN_p, upd_upd]
    rw [e]
    exact ⟨_, ⟨cG, cE⟩, rfl⟩
