/-! LAW: sums, in the class (made by wip/whole/gen89zzd.py) -/
theorem b_53_2 {X : Nat × (Nat → Int32)} {d : Nat} {p : Nat → Nat} {sg : Mg} {Q : am_R → Prop} {T : Nat → Int32} {tn tk : Nat} {tE : LE} (hT : CT T tn tk sg) (hC : LCd tE sg) {sg0 : Mg} (hF : FL sg0 sg) {i : Nat} (u_i : i ≤ 400)
    (o1 : (400 ≤ i) → CT T tn tk sg → LCd tE sg → FL sg0 sg → Q (gR0 p sg))
    (o2 : (¬ (400 ≤ i)) → (¬ (dcN (isU T tn tk) = true)) → (ptW T tn tk < 8) → tE.length < 400)
    (o3 : (¬ (400 ≤ i)) → (¬ (dcN (isU T tn tk) = true)) → (ptW T tn tk < 8) → ∀ s4 : Mg, (EM (ptW T tn tk, 0) tE sg s4) → ∀ s5 : Mg, (CT T tn (nxK T tn tk) s5 ∧ CN s4 s5) → CT T tn (nxK T tn tk) s5 → LCd (tE ++ [(ptW T tn tk, 0)]) s5 → FL sg0 s5 → gW X (d + 3) k_53 27 [some (vR 5), some (vI (nI i))] [] p s5 Q)
    (o4 : (¬ (400 ≤ i)) → (¬ (dcN (isU T tn tk) = true)) → (¬ (ptW T tn tk < 8)) → ∀ s6 : Mg, (CF (spK T tn tk) sg s6) → CT T tn tk sg → LCd tE sg → FL sg0 sg → Q (gRx p s6 0))
    (o5 : (¬ (400 ≤ i)) → ((dcN (isU T tn tk) = true)) → (tkP T tn tk 3 0 1000) → ∀ s8 : Mg, (CT T tn (nxK T tn tk) s8 ∧ CN sg s8) → tE.length < 400)
    (o6 : (¬ (400 ≤ i)) → ((dcN (isU T tn tk) = true)) → (tkP T tn tk 3 0 1000) → ∀ s8 : Mg, (CT T tn (nxK T tn tk) s8 ∧ CN sg s8) → ∀ s10 : Mg, (EM (10, numK T tn tk) tE s8 s10) → CT T tn (nxK T tn tk) s10 → LCd (tE ++ [(10, numK T tn tk)]) s10 → FL sg0 s10 → gW X (d + 3) k_53 27 [some (vR 5), some (vI (nI i))] [] p s10 Q)
    (o7 : (¬ (400 ≤ i)) → ((dcN (isU T tn tk) = true)) → (¬ tkP T tn tk 3 0 1000) → ∀ s11 : Mg, (CF (spK T tn tk) sg s11) → CT T tn tk sg → LCd tE sg → FL sg0 sg → Q (gRx p s11 0)) :
    gW X (d + 3) k_53 2 [some (vR 5), some (vI (nI i))] [] p sg Q := by
  refine g_pure 2 (i' := 4) (lv' := [some (vR 5), some (vI (nI i))]) (st' := [vI 400, vI (nI i)]) rfl ?_
  refine g_if2 (i' := 44) (P := 400 ≤ i) rfl rfl (g_geN (show nI i = nI i from (rfl : nI i = nI i)) (show 400 = nI 400 from (show (400 : Int32) = nI 400 from rfl)) (by omega) (by omega)) (fun h1 => ?_) (fun h1 => ?_)
  · refine g_vret rfl ?_
    exact o1 h1 hT hC hF
  · refine g_pure 2 (i' := 7) (lv' := [some (vR 5), some (vI (nI i))]) (st' := [vR 1]) rfl ?_
    refine g_cV1 rfl (args := [vR 1]) (rest := []) rfl rfl rfl (s_78 (d := d + 2) hT) ?_
    refine g_if1 (i' := 19) (P := ¬ (dcN (isU T tn tk) = true)) rfl rfl g_eqB (fun h2 => ?_) (fun h2 => ?_)
    · refine g_pure 3 (i' := 22) (lv' := [some (vR 5), some (vI (nI i))]) (st' := [vR 5, vR 308]) rfl ?_
      by_cases h3 : ptW T tn tk < 8
      · refine g_cV1 rfl (args := [vR 5]) (rest := [vR 308]) rfl rfl rfl (s_54a (d := d + 1) hT (by assumption)) ?_
        refine g_cV0E rfl (args := [vR 308, vI (nI (1000 + ptW T tn tk))]) (rest := []) rfl rfl rfl (s_42 (d := d + 2) (q := (ptW T tn tk, 0)) hC (o2 h1 h2 h3) (cdp (by assumption))) (fun s4 es4 => ?_)
        have hTs4 := hT.eq (es4.1 1 (by decide) (by decide)) (es4.1 2 (by decide) (by decide))
        have hFs4 := hF.em es4
        have hCs4 : LCd (tE ++ [(ptW T tn tk, 0)]) s4 := es4.2.2
        refine g_pure 2 (i' := 26) (lv' := [some (vR 5), some (vI (nI i))]) (st' := [vR 1]) rfl ?_
        refine g_cV0E rfl (args := [vR 1]) (rest := []) rfl rfl rfl (s_70 (d := d + 2) hTs4) (fun s5 es5 => ?_)
        have hTs5 := es5.1
        have hFs5 := hFs4.cn es5.2
        have hCs5 : LCd (tE ++ [(ptW T tn tk, 0)]) s5 := hCs4.cn es5.2
        exact o3 h1 h2 h3 s4 es4 s5 es5 hTs5 hCs5 hFs5
      · refine g_cVxE rfl (args := [vR 5]) (rest := [vR 308]) rfl rfl rfl (s_54b (d := d + 1) hT (by assumption)) (fun s6 es6 => ?_)
        exact o4 h1 h2 h3 s6 es6 hT hC hF
    · have h2 := Classical.not_not.mp h2
      refine g_pure 7 (i' := 16) (lv' := [some (vR 5), some (vI (nI i))]) (st' := [vI 999, vI 0, vI 3, vR 1, vR 308]) rfl ?_
      by_cases h7 : tkP T tn tk 3 0 1000
      · refine gW_eq (st' := [vI 999, vI (nI 0), vI (nI 3), vR 1, vR 308]) rfl (by rw [(show (3 : Int32) = nI 3 from rfl), (show (0 : Int32) = nI 0 from rfl)]) rfl ?_
        refine g_cV1E rfl (args := [vR 1, vI (nI 3), vI (nI 0), vI 999]) (rest := [vR 308]) rfl rfl rfl (s_77a (m := 1000) (d := d + 1) hT (by omega) (by omega) (by omega) (show (999 : Int32) = nI 1000 - 1 from by decide) (by assumption)) (fun s8 es8 => ?_)
        have hTs8 := es8.1
        have hFs8 := hF.cn es8.2
        have hCs8 : LCd tE s8 := hC.cn es8.2
        have t9 := (show tkP T tn tk 3 0 1000 by assumption).2.2
        refine g_cV0E rfl (args := [vR 308, vI (nI (numK T tn tk))]) (rest := []) rfl rfl rfl (s_42 (d := d + 2) (q := (10, numK T tn tk)) hCs8 (o5 h1 h2 h7 s8 es8) cd10) (fun s10 es10 => ?_)
        have hTs10 := hTs8.eq (es10.1 1 (by decide) (by decide)) (es10.1 2 (by decide) (by decide))
        have hFs10 := hFs8.em es10
        have hCs10 : LCd (tE ++ [(10, numK T tn tk)]) s10 := es10.2.2
        refine g_pure 1 (i' := 27) (lv' := [some (vR 5), some (vI (nI i))]) (st' := []) rfl ?_
        exact o6 h1 h2 h7 s8 es8 s10 es10 hTs10 hCs10 hFs10
      · refine gW_eq (st' := [vI 999, vI (nI 0), vI (nI 3), vR 1, vR 308]) rfl (by rw [(show (3 : Int32) = nI 3 from rfl), (show (0 : Int32) = nI 0 from rfl)]) rfl ?_
        refine g_cVxE rfl (args := [vR 1, vI (nI 3), vI (nI 0), vI 999]) (rest := [vR 308]) rfl rfl rfl (s_77b (m := 1000) (d := d + 1) hT (by omega) (by omega) (by omega) (show (999 : Int32) = nI 1000 - 1 from by decide) (by assumption)) (fun s11 es11 => ?_)
        exact o7 h1 h2 h7 s11 es11 hT hC hF

theorem b_53_27 {X : Nat × (Nat → Int32)} {d : Nat} {p : Nat → Nat} {sg : Mg} {Q : am_R → Prop} {T : Nat → Int32} {tn tk : Nat} {tE : LE} (hT : CT T tn tk sg) (hC : LCd tE sg) {sg0 : Mg} (hF : FL sg0 sg) {i : Nat} (u_i : i ≤ 400)
    (o1 : (i ≤ 0) → (dcN (isG T tn tk 43) = true) → ∀ s3 : Mg, (CT T tn (nxK T tn tk) s3 ∧ CN sg s3) → CT T tn (nxK T tn tk) s3 → LCd tE s3 → FL sg0 s3 → gW X (d + 3) k_53 2 [some (vR 5), some (vI (nI (i + 1)))] [] p s3 Q)
    (o2 : (i ≤ 0) → (¬ (dcN (isG T tn tk 43) = true)) → CT T tn tk sg → LCd tE sg → FL sg0 sg → Q (gR0 p sg))
    (o3 : (¬ (i ≤ 0)) → tE.length < 400)
    (o4 : (¬ (i ≤ 0)) → ∀ s4 : Mg, (EM (11, 0) tE sg s4) → (dcN (isG T tn tk 43) = true) → ∀ s6 : Mg, (CT T tn (nxK T tn tk) s6 ∧ CN s4 s6) → CT T tn (nxK T tn tk) s6 → LCd (tE ++ [(11, 0)]) s6 → FL sg0 s6 → gW X (d + 3) k_53 2 [some (vR 5), some (vI (nI (i + 1)))] [] p s6 Q)
    (o5 : (¬ (i ≤ 0)) → ∀ s4 : Mg, (EM (11, 0) tE sg s4) → (¬ (dcN (isG T tn tk 43) = true)) → CT T tn tk s4 → LCd (tE ++ [(11, 0)]) s4 → FL sg0 s4 → Q (gR0 p s4)) :
    gW X (d + 3) k_53 27 [some (vR 5), some (vI (nI i))] [] p sg Q := by
  refine g_pure 1 (i' := 28) (lv' := [some (vR 5), some (vI (nI i))]) (st' := [vI (nI i)]) rfl ?_
  refine g_if1 (i' := 33) (P := i ≤ 0) rfl rfl (g_leN (show nI i = nI i from (rfl : nI i = nI i)) (show 0 = nI 0 from (show (0 : Int32) = nI 0 from rfl)) (by omega) (by omega)) (fun h1 => ?_) (fun h1 => ?_)
  · refine g_pure 3 (i' := 36) (lv' := [some (vR 5), some (vI (nI i))]) (st' := [vI 43, vR 1]) rfl ?_
    refine g_cV1 rfl (args := [vR 1, vI 43]) (rest := []) rfl rfl rfl (s_79 (d := d + 2) hT) ?_
    refine g_if1 (i' := 39) (P := dcN (isG T tn tk 43) = true) rfl rfl g_neB (fun h2 => ?_) (fun h2 => ?_)
    · refine g_pure 2 (i' := 41) (lv' := [some (vR 5), some (vI (nI i))]) (st' := [vR 1]) rfl ?_
      refine g_cV0E rfl (args := [vR 1]) (rest := []) rfl rfl rfl (s_70 (d := d + 2) hT) (fun s3 es3 => ?_)
      have hTs3 := es3.1
      have hFs3 := hF.cn es3.2
      have hCs3 : LCd tE s3 := hC.cn es3.2
      refine g_pure 2 (i' := 2) (lv' := [some (vR 5), some (vI (nI i + 1))]) (st' := []) rfl ?_
      refine gW_eq (lv' := [some (vR 5), some (vI (nI (i + 1)))]) (st' := []) (by rw [(show (nI i + 1) = nI (i + 1) from ((g_add (rfl : nI i = nI i) (show (1 : Int32) = nI 1 from rfl))).trans (congrArg nI (by omega)))]) rfl rfl ?_
      exact o1 h1 h2 s3 es3 hTs3 hCs3 hFs3
    · refine g_vret rfl ?_
      exact o2 h1 h2 hT hC hF
  · refine g_pure 3 (i' := 32) (lv' := [some (vR 5), some (vI (nI i))]) (st' := [vI 1011, vR 308]) rfl ?_
    refine g_cV0E rfl (args := [vR 308, vI 1011]) (rest := []) rfl rfl rfl (s_42 (d := d + 2) (q := (11, 0)) hC (o3 h1) (show (1011 : Int32) = cdL (11, 0) from by decide +kernel)) (fun s4 es4 => ?_)
    have hTs4 := hT.eq (es4.1 1 (by decide) (by decide)) (es4.1 2 (by decide) (by decide))
    have hFs4 := hF.em es4
    have hCs4 : LCd (tE ++ [(11, 0)]) s4 := es4.2.2
    refine g_pure 3 (i' := 36) (lv' := [some (vR 5), some (vI (nI i))]) (st' := [vI 43, vR 1]) rfl ?_
    refine g_cV1 rfl (args := [vR 1, vI 43]) (rest := []) rfl rfl rfl (s_79 (d := d + 2) hTs4) ?_
    refine g_if1 (i' := 39) (P := dcN (isG T tn tk 43) = true) rfl rfl g_neB (fun h5 => ?_) (fun h5 => ?_)
    · refine g_pure 2 (i' := 41) (lv' := [some (vR 5), some (vI (nI i))]) (st' := [vR 1]) rfl ?_
      refine g_cV0E rfl (args := [vR 1]) (rest := []) rfl rfl rfl (s_70 (d := d + 2) hTs4) (fun s6 es6 => ?_)
      have hTs6 := es6.1
      have hFs6 := hFs4.cn es6.2
      have hCs6 : LCd (tE ++ [(11, 0)]) s6 := hCs4.cn es6.2
      refine g_pure 2 (i' := 2) (lv' := [some (vR 5), some (vI (nI i + 1))]) (st' := []) rfl ?_
      refine gW_eq (lv' := [some (vR 5), some (vI (nI (i + 1)))]) (st' := []) (by rw [(show (nI i + 1) = nI (i + 1) from ((g_add (rfl : nI i = nI i) (show (1 : Int32) = nI 1 from rfl))).trans (congrArg nI (by omega)))]) rfl rfl ?_
      exact o4 h1 s4 es4 h5 s6 es6 hTs6 hCs6 hFs6
    · refine g_vret rfl ?_
      exact o5 h1 s4 es4 h5 hTs4 hCs4 hFs4

/-- how a piece of a condition ends in the class -/
def lnL (R : LR) (T : Nat → Int32) (n : Nat) (sg : Mg) (p : Nat → Nat) (r : am_R) : Prop := match R with
  | .inl f => LFl f sg p r
  | .inr q => ∃ s, (FL sg s ∧ CT T n q.1 s ∧ LCd q.2 s) ∧ r = gR0 p s
theorem p_53 {X : Nat × (Nat → Int32)} {d : Nat} {p : Nat → Nat} {sg0 s : Mg} {T : Nat → Int32} {n k i : Nat} {E : LE} {f : Nat → LE → LR} (hi : i < 400) (hT : CT T n k s) (hC : LCd E s) (hF : FL sg0 s) (hE : E.length + 1 ≤ k)
    (go : ∀ k2 E2 s2, pPart T n k E = .inr (k2, E2) → CT T n k2 s2 → LCd E2 s2 → FL sg0 s2 → gW X (d + 3) k_53 27 [some (vR 5), some (vI (nI i))] [] p s2 (lnL (f k2 E2) T n sg0 p)) : gW X (d + 3) k_53 2 [some (vR 5), some (vI (nI i))] [] p s (lnL (bnL (pPart T n k E) f) T n sg0 p) := by
  have hk := hT.1
  have hn := hT.2.1
  have hb := spK_ok (T := T) hk
  refine b_53_2 (d := d) hT hC hF (by omega) (fun h => by omega) (fun _ _ h => ?_) (fun _ h1 h2 s4 e4 s5 e5 cT cC cF => ?_) (fun _ h1 h2 s12 e12 cT cC cF => ?_) (fun _ h1 h2 s14 e14 => ?_) (fun _ h1 h2 s14 e14 s16 e16 cT cC cF => ?_) (fun _ h1 h2 s23 e23 cT cC cF => ?_)
  · have := nx_p hk h; omega
  · have e : pPart T n k E = .inr (nxK T n k, E ++ [(ptW T n k, 0)]) := by unfold pPart; rw [sel_f (dcN_n.mp h1), sel_t h2]
    rw [bnL_r e]
    exact go _ _ s5 e cT cC cF
  · have e : pPart T n k E = .inl (spK T n k) := by unfold pPart; rw [sel_f (dcN_n.mp h1), sel_f h2]
    rw [bnL_l e]
    exact LFl.of cF e12
  · have := nx_u hk (dcN_i.mp h1); omega
  · have e : pPart T n k E = .inr (nxK T n k, E ++ [(10, numK T n k)]) := by unfold pPart; rw [sel_t (dcN_i.mp h1), sel_t h2]
    rw [bnL_r e]
    exact go _ _ s16 e cT cC cF
  · have e : pPart T n k E = .inl (spK T n k) := by unfold pPart; rw [sel_t (dcN_i.mp h1), sel_f h2]
    rw [bnL_l e]
    exact LFl.of cF e23
theorem l_53 {X : Nat × (Nat → Int32)} {d : Nat} {p : Nat → Nat} {sg0 : Mg} {T : Nat → Int32} {n : Nat} : ∀ (f i k : Nat) (E : LE) (s : Mg), f + i = 401 → 2 * i + 1 ≤ k → E.length + 1 ≤ k → CT T n k s → LCd E s → FL sg0 s → gW X (d + 3) k_53 27 [some (vR 5), some (vI (nI i))] [] p s (lnL (pSumR T n f k (if i = 0 then E else E ++ [(11, 0)])) T n sg0 p)
  | 0, i, k, E, s, hf, hi, hE, hT, hC, hF => by
    have hk := hT.1
    have hn := hT.2.1
    omega
  | f + 1, i, k, E, s, hf, hi, hE, hT, hC, hF => by
    have hk := hT.1
    have hn := hT.2.1
    have plus : ∀ E3 s3, (E3.length ≤ E.length + 1) → isG T n k 43 → CT T n (nxK T n k) s3 → LCd E3 s3 → FL sg0 s3 → gW X (d + 3) k_53 2 [some (vR 5), some (vI (nI (i + 1)))] [] p s3 (lnL (pSumR T n (f + 1) k E3) T n sg0 p) := fun E3 s3 h3 c cT cC cF => by
      have g1 := nx_g hk c
      rw [show pSumR T n (f + 1) k E3 = bnL (pPart T n (nxK T n k) E3) (fun k2 E2 => pSumR T n f k2 (E2 ++ [(11, 0)])) from sel_t c]
      refine p_53 (d := d) (by omega) cT cC cF (by omega) (fun k2 E2 s2 e hT2 hC2 hF2 => ?_)
      have g2 := pPart_g g1.2.1 E3 _ _ e
      have := l_53 (X := X) (d := d) (p := p) (sg0 := sg0) f (i + 1) k2 E2 s2 (by omega) (by omega) (by omega) hT2 hC2 hF2
      rw [if_neg (by omega)] at this
      exact this
    have stop : ∀ E3 s3, ¬ isG T n k 43 → CT T n k s3 → LCd E3 s3 → FL sg0 s3 → lnL (pSumR T n (f + 1) k E3) T n sg0 p (gR0 p s3) := fun E3 s3 c cT cC cF => by
      rw [show pSumR T n (f + 1) k E3 = .inr (k, E3) from sel_f c]
      exact ⟨s3, ⟨cF, cT, cC⟩, rfl⟩
    refine b_53_27 (d := d) hT hC hF (by omega) (fun h0 c s3 e3 cT cC cF => ?_) (fun h0 c cT cC cF => ?_) (fun h0 => by omega) (fun h0 s4 e4 c s6 e6 cT cC cF => ?_) (fun h0 s4 e4 c cT cC cF => ?_)
    · rw [if_pos (by omega)]
      exact plus E s3 (by omega) (dcN_i.mp c) cT cC cF
    · rw [if_pos (by omega)]
      exact stop E s (dcN_n.mp c) cT cC cF
    · rw [if_neg (by omega)]
      exact plus _ s6 (by rw [List.length_append]; exact Nat.le_refl _) (dcN_i.mp c) cT cC cF
    · rw [if_neg (by omega)]
      exact stop _ s4 (dcN_n.mp c) cT cC cF
theorem s_53 {X : Nat × (Nat → Int32)} {d : Nat} {p : Nat → Nat} {sg : Mg} {T : Nat → Int32} {n k : Nat} {E : LE} (hT : CT T n k sg) (hC : LCd E sg) (hE : E.length + 1 ≤ k) : gF X (d + 4) 53 [vR 5] p sg (lnL (pSum T n k E) T n sg p) := by
  refine g_in (cd := k_53) (nL := 2) (rc := 6) rfl (g_A (a := 5) (kd := 0) (n := 5) rfl (by decide)) (g_c1 rfl) ?_
  show gW X (d + 3) k_53 0 [some (vR 5), none] [] p sg _
  refine g_pure 2 (i' := 2) (lv' := [some (vR 5), some (vI (nI 0))]) (st' := []) rfl ?_
  refine p_53 (d := d) (f := fun k2 E2 => pSumR T n 401 k2 E2) (by decide) hT hC (FL.rf sg) hE (fun k2 E2 s2 e hT2 hC2 hF2 => ?_)
  have g2 := pPart_g hT.1 E _ _ e
  exact l_53 (d := d) 401 0 k2 E2 s2 rfl (by omega) (by omega) hT2 hC2 hF2
theorem lnL_fl {R : LR} {T : Nat → Int32} {n : Nat} {sg s : Mg} {p : Nat → Nat} {r : am_R} (h : FL sg s) (g : lnL R T n s p r) : lnL R T n sg p r := by
  cases R with
  | inl f => exact LFl.fl h g
  | inr q => obtain ⟨s2, g1, g2⟩ := g; exact ⟨s2, ⟨h.tr g1.1, g1.2⟩, g2⟩
/-- a call that reads a piece -/
theorem lnL_call {X : Nat × (Nat → Int32)} {d : Nat} {cd : List am_CE} {i na : Nat} {lv : List (Option AV)} {st : List AV} {args rest : List AV} {p : Nat → Nat} {s sg : Mg} {Q : am_R → Prop} {pc nx y j : Nat} {x : Int32} {R : LR} {T : Nat → Int32} {n : Nat} (h : cd.drop i = (pc, .invokevirtual j, nx, na + 1, y, x) :: cd.drop (i + 1)) (hst : st = args.reverse ++ rest) (hl : args.length = na + 1) (hs : (rest.map am_cat).sum ≤ 8) (hF : FL sg s) (hf : gF X d y args p s (lnL R T n s p)) (g1 : ∀ f r, R = .inl f → LFl f sg p r → Q r) (g2 : ∀ q s2, R = .inr q → FL sg s2 → CT T n q.1 s2 → LCd q.2 s2 → gW X d cd (i + 1) lv rest p s2 Q) : gW X d cd i lv st p s Q := by
  refine g_calV h hst hl hs hf (fun r hr => ?_)
  cases hR : R with
  | inl f =>
    rw [hR] at hr
    have g3 := g1 f r hR (LFl.fl hF hr)
    obtain ⟨s2, _, _, _, rfl⟩ := hr
    exact gK_x g3
  | inr q =>
    rw [hR] at hr
    obtain ⟨s2, hs2, rfl⟩ := hr
    exact gK_0 (g2 q s2 hR (hF.tr hs2.1) hs2.2.1 hs2.2.2)
