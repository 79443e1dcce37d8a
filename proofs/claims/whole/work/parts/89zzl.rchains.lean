/-! LAW: sums and chains of conditions, in the reference (made by wip/whole/gen89zzl.py) -/
/-- an atom is read so at this depth, in the reference -/
def AtM (X : Nat × (Nat → Int32)) (p : Nat → Nat) (T : Nat → Int32) (n dA g : Nat) (A : Nat → LE → LR) : Prop := ∀ (sg : Mg) (k : Nat) (E : LE), MK T n k sg → LCm E sg → E.length + 1 ≤ k → sg 800 12 = nI g → gF X dA 222 [vR 800] p sg (lnQ (A k E) T n sg p)

theorem l_225 {X : Nat × (Nat → Int32)} {d : Nat} {p : Nat → Nat} {sg0 : Mg} {T : Nat → Int32} {n : Nat}  : ∀ (f k : Nat) (E : LE) (s : Mg), n < f + k → E.length + 1 ≤ k → MK T n k s → LCm E s → FQd sg0 s → gW X (d + 4) k_225 5 [some (vR 800)] [] p s (lnQ (pSumR T n f k E) T n sg0 p)
  | 0, k, E, s, hf, hE, hM, hC0, hF => by
    have hk := hM.2.1
    omega
  | f + 1, k, E, s, hf, hE, hM, hC0, hF => by
    have hk := hM.2.1
    have hn := hM.1.1
    by_cases c : isG T n k 43
    · have g1 := nx_g hk c
      have e0 : pSumR T n (f + 1) k E = bnL (pPart T n (nxK T n k) E) (fun k2 E2 => pSumR T n f k2 (E2 ++ [(11, 0)])) := sel_t c
      refine g_pure 2 (i' := 7) (lv' := [some (vR 800)]) (st' := [vI 43, vR 800]) rfl ?_
      refine g_cV1E (p' := p) rfl (args := [vR 800, vI 43]) (rest := []) rfl rfl rfl (s_223a (d := d + 1) ⟨by decide, by decide⟩ hM c) (fun s1 h1 => ?_)
      refine g_if1 (i' := 19) (P := False) rfl rfl cd_eq1 False.elim (fun _ => ?_)
      refine g_pure 1 (i' := 10) (lv' := [some (vR 800)]) (st' := [vR 800]) rfl ?_
      have hF1 := hF.mf h1.2.1
      have hC1 := hC0.mf h1.2.1
      refine lnQ_call rfl (args := [vR 800]) (rest := []) rfl rfl (Nat.zero_le _) hF1 (s_226 (d := d) h1.1 hC1 (by omega)) (fun e s2 he hF2 h11 => ?_) (fun q s2 hq hF2 hM2 hC2 => ?_)
      · refine g_if1 (i' := 14) (P := False) rfl rfl cd_ne0 False.elim (fun _ => ?_)
        refine g_pure 1 (i' := 13) (lv' := [some (vR 800)]) (st' := [vI 0]) rfl ?_
        rw [e0, bnL_l he]
        exact g_bret rfl g_nar0 ⟨s2, ⟨hF2, h11⟩, rfl⟩
      · have g2 := pPart_g g1.2.1 E q.1 q.2 hq
        refine g_if1 (i' := 14) (P := True) rfl rfl cd_ne1 (fun _ => ?_) (fun h => absurd trivial h)
        refine g_pure 3 (i' := 17) (lv' := [some (vR 800)]) (st' := [vI (nI 0), vI (nI 11), vR 800]) rfl ?_
        refine g_cV0E (p' := p) rfl (args := [vR 800, vI (nI 11), vI (nI 0)]) (rest := []) rfl rfl rfl (s_224 (d := d + 3) hC2 (by omega)) (fun s3 hs3 => ?_)
        refine g_pure 1 (i' := 5) (lv' := [some (vR 800)]) (st' := []) rfl ?_
        rw [e0, bnL_r (k := q.1) (E := q.2) hq]
        exact l_225  f q.1 (q.2 ++ [(11, 0)]) s3 (by omega) (by rw [List.length_append]; show q.2.length + 1 + 1 ≤ _; omega) (hM2.em hs3) (hs3.lc (q := (11, 0)) hC2) (hF2.em hs3)
    · refine g_pure 2 (i' := 7) (lv' := [some (vR 800)]) (st' := [vI 43, vR 800]) rfl ?_
      refine g_cV1E (p' := p) rfl (args := [vR 800, vI 43]) (rest := []) rfl rfl rfl (s_223b (d := d + 1) hM c) (fun s1 h1 => ?_)
      refine g_if1 (i' := 19) (P := True) rfl rfl cd_eq0 (fun _ => ?_) (fun h => absurd trivial h)
      refine g_pure 1 (i' := 20) (lv' := [some (vR 800)]) (st' := [vI 1]) rfl ?_
      rw [show pSumR T n (f + 1) k E = .inr (k, E) from sel_f c]
      exact g_bret rfl g_nar1 ⟨s1, ⟨hF.mf h1.2.1, h1.1, hC0.mf h1.2.1⟩, rfl⟩
theorem s_225 {X : Nat × (Nat → Int32)} {d : Nat} {p : Nat → Nat} {sg0 : Mg} {T : Nat → Int32} {n : Nat}  {k : Nat} {E : LE} (hM : MK T n k sg0) (hC0 : LCm E sg0) (hE : E.length + 1 ≤ k) : gF X (d + 4 + 1) 225 [vR 800] p sg0 (lnQ (pSum T n k E) T n sg0 p) := by
  have hk := hM.2.1
  have e0 : pSum T n k E = bnL (pPart T n k E) (fun k1 E1 => pSumR T n 401 k1 E1) := rfl
  refine g_in (cd := k_225) (nL := 1) (rc := 13) rfl (g_A (a := 800) (kd := 0) (n := 12) rfl (by decide)) (g_c1 rfl) ?_
  show gW X (d + 4) k_225 0 [some (vR 800)] [] p sg0 _
  refine g_pure 1 (i' := 1) (lv' := [some (vR 800)]) (st' := [vR 800]) rfl ?_
  refine lnQ_call rfl (args := [vR 800]) (rest := []) rfl rfl (Nat.zero_le _) (FQd.rf sg0) (s_226 (d := d) hM hC0 hE) (fun e s2 he hF2 h11 => ?_) (fun q s2 hq hF2 hM2 hC2 => ?_)
  · refine g_if1 (i' := 5) (P := False) rfl rfl cd_ne0 False.elim (fun _ => ?_)
    refine g_pure 1 (i' := 4) (lv' := [some (vR 800)]) (st' := [vI 0]) rfl ?_
    rw [e0, bnL_l he]
    exact g_bret rfl g_nar0 ⟨s2, ⟨hF2, h11⟩, rfl⟩
  · have g2 := pPart_g hk E q.1 q.2 hq
    have hn := hM.1.1
    refine g_if1 (i' := 5) (P := True) rfl rfl cd_ne1 (fun _ => ?_) (fun h => absurd trivial h)
    rw [e0, bnL_r (k := q.1) (E := q.2) hq]
    exact l_225  401 q.1 q.2 s2 (by omega) (by omega) hM2 hC2 hF2

theorem l_221 {X : Nat × (Nat → Int32)} {d : Nat} {p : Nat → Nat} {sg0 : Mg} {T : Nat → Int32} {n : Nat} {A : Nat → LE → LR} {g : Nat} (hA : ∀ k, k ≤ n → ∀ E, LG n k E (A k E)) (hAt : AtM X p T n (d + 5) g A) (h12 : sg0 800 12 = nI g) : ∀ (f k : Nat) (E : LE) (s : Mg), n < f + k → E.length + 1 ≤ k → MK T n k s → LCm E s → FQd sg0 s → gW X (d + 5) k_221 5 [some (vR 800)] [] p s (lnQ (pAnd T n A f k E) T n sg0 p)
  | 0, k, E, s, hf, hE, hM, hC0, hF => by
    have hk := hM.2.1
    omega
  | f + 1, k, E, s, hf, hE, hM, hC0, hF => by
    have hk := hM.2.1
    have hn := hM.1.1
    by_cases c : isW T n k (am_SL 35)
    · have g1 := nx_w hk (by decide) c
      have e0 : pAnd T n A (f + 1) k E = bnL (A (nxK T n k) E) (fun k2 E2 => pAnd T n A f k2 (E2 ++ [(15, 0)])) := sel_t c
      refine g_pure 2 (i' := 7) (lv' := [some (vR 800)]) (st' := [vS 75, vR 800]) rfl ?_
      refine g_cV1E (p' := p) rfl (args := [vR 800, vS 75]) (rest := []) rfl rfl rfl (s_214a (d := d + 1) (by decide) (wL_of (by decide)) hM (show isW T n k (am_SL 75) from c)) (fun s1 h1 => ?_)
      refine g_if1 (i' := 19) (P := False) rfl rfl cd_eq1 False.elim (fun _ => ?_)
      refine g_pure 1 (i' := 10) (lv' := [some (vR 800)]) (st' := [vR 800]) rfl ?_
      have hF1 := hF.mf h1.2.1
      have hC1 := hC0.mf h1.2.1
      refine lnQ_call rfl (args := [vR 800]) (rest := []) rfl rfl (Nat.zero_le _) hF1 (hAt s1 (nxK T n k) E h1.1 hC1 (by omega) (hF1.2.trans h12)) (fun e s2 he hF2 h11 => ?_) (fun q s2 hq hF2 hM2 hC2 => ?_)
      · refine g_if1 (i' := 14) (P := False) rfl rfl cd_ne0 False.elim (fun _ => ?_)
        refine g_pure 1 (i' := 13) (lv' := [some (vR 800)]) (st' := [vI 0]) rfl ?_
        rw [e0, bnL_l he]
        exact g_bret rfl g_nar0 ⟨s2, ⟨hF2, h11⟩, rfl⟩
      · have g2 := hA _ g1.2.1 E q.1 q.2 hq
        refine g_if1 (i' := 14) (P := True) rfl rfl cd_ne1 (fun _ => ?_) (fun h => absurd trivial h)
        refine g_pure 3 (i' := 17) (lv' := [some (vR 800)]) (st' := [vI (nI 0), vI (nI 15), vR 800]) rfl ?_
        refine g_cV0E (p' := p) rfl (args := [vR 800, vI (nI 15), vI (nI 0)]) (rest := []) rfl rfl rfl (s_224 (d := d + 4) hC2 (by omega)) (fun s3 hs3 => ?_)
        refine g_pure 1 (i' := 5) (lv' := [some (vR 800)]) (st' := []) rfl ?_
        rw [e0, bnL_r (k := q.1) (E := q.2) hq]
        exact l_221 hA hAt h12 f q.1 (q.2 ++ [(15, 0)]) s3 (by omega) (by rw [List.length_append]; show q.2.length + 1 + 1 ≤ _; omega) (hM2.em hs3) (hs3.lc (q := (15, 0)) hC2) (hF2.em hs3)
    · refine g_pure 2 (i' := 7) (lv' := [some (vR 800)]) (st' := [vS 75, vR 800]) rfl ?_
      refine g_cV1E (p' := p) rfl (args := [vR 800, vS 75]) (rest := []) rfl rfl rfl (s_214b (d := d + 1) (by decide) (wL_of (by decide)) hM (show ¬ isW T n k (am_SL 75) from c)) (fun s1 h1 => ?_)
      refine g_if1 (i' := 19) (P := True) rfl rfl cd_eq0 (fun _ => ?_) (fun h => absurd trivial h)
      refine g_pure 1 (i' := 20) (lv' := [some (vR 800)]) (st' := [vI 1]) rfl ?_
      rw [show pAnd T n A (f + 1) k E = .inr (k, E) from sel_f c]
      exact g_bret rfl g_nar1 ⟨s1, ⟨hF.mf h1.2.1, h1.1, hC0.mf h1.2.1⟩, rfl⟩
theorem s_221 {X : Nat × (Nat → Int32)} {d : Nat} {p : Nat → Nat} {sg0 : Mg} {T : Nat → Int32} {n : Nat} {A : Nat → LE → LR} {g : Nat} (hA : ∀ k, k ≤ n → ∀ E, LG n k E (A k E)) (hAt : AtM X p T n (d + 5) g A) (h12 : sg0 800 12 = nI g) {k : Nat} {E : LE} (hM : MK T n k sg0) (hC0 : LCm E sg0) (hE : E.length + 1 ≤ k) : gF X (d + 5 + 1) 221 [vR 800] p sg0 (lnQ (pAll T n A k E) T n sg0 p) := by
  have hk := hM.2.1
  have e0 : pAll T n A k E = bnL (A k E) (fun k1 E1 => pAnd T n A 401 k1 E1) := rfl
  refine g_in (cd := k_221) (nL := 1) (rc := 13) rfl (g_A (a := 800) (kd := 0) (n := 12) rfl (by decide)) (g_c1 rfl) ?_
  show gW X (d + 5) k_221 0 [some (vR 800)] [] p sg0 _
  refine g_pure 1 (i' := 1) (lv' := [some (vR 800)]) (st' := [vR 800]) rfl ?_
  refine lnQ_call rfl (args := [vR 800]) (rest := []) rfl rfl (Nat.zero_le _) (FQd.rf sg0) (hAt sg0 k E hM hC0 hE h12) (fun e s2 he hF2 h11 => ?_) (fun q s2 hq hF2 hM2 hC2 => ?_)
  · refine g_if1 (i' := 5) (P := False) rfl rfl cd_ne0 False.elim (fun _ => ?_)
    refine g_pure 1 (i' := 4) (lv' := [some (vR 800)]) (st' := [vI 0]) rfl ?_
    rw [e0, bnL_l he]
    exact g_bret rfl g_nar0 ⟨s2, ⟨hF2, h11⟩, rfl⟩
  · have g2 := hA _ hk E q.1 q.2 hq
    have hn := hM.1.1
    refine g_if1 (i' := 5) (P := True) rfl rfl cd_ne1 (fun _ => ?_) (fun h => absurd trivial h)
    rw [e0, bnL_r (k := q.1) (E := q.2) hq]
    exact l_221 hA hAt h12 401 q.1 q.2 s2 (by omega) (by omega) hM2 hC2 hF2

theorem l_220 {X : Nat × (Nat → Int32)} {d : Nat} {p : Nat → Nat} {sg0 : Mg} {T : Nat → Int32} {n : Nat} {A : Nat → LE → LR} {g : Nat} (hA : ∀ k, k ≤ n → ∀ E, LG n k E (A k E)) (hAt : AtM X p T n (d + 5) g A) (h12 : sg0 800 12 = nI g) : ∀ (f k : Nat) (E : LE) (s : Mg), n < f + k → E.length + 1 ≤ k → MK T n k s → LCm E s → FQd sg0 s → gW X (d + 6) k_220 5 [some (vR 800)] [] p s (lnQ (pOr T n A f k E) T n sg0 p)
  | 0, k, E, s, hf, hE, hM, hC0, hF => by
    have hk := hM.2.1
    omega
  | f + 1, k, E, s, hf, hE, hM, hC0, hF => by
    have hk := hM.2.1
    have hn := hM.1.1
    by_cases c : isW T n k (am_SL 36)
    · have g1 := nx_w hk (by decide) c
      have e0 : pOr T n A (f + 1) k E = bnL (pAll T n A (nxK T n k) E) (fun k2 E2 => pOr T n A f k2 (E2 ++ [(16, 0)])) := sel_t c
      refine g_pure 2 (i' := 7) (lv' := [some (vR 800)]) (st' := [vS 76, vR 800]) rfl ?_
      refine g_cV1E (p' := p) rfl (args := [vR 800, vS 76]) (rest := []) rfl rfl rfl (s_214a (d := d + 2) (by decide) (wL_of (by decide)) hM (show isW T n k (am_SL 76) from c)) (fun s1 h1 => ?_)
      refine g_if1 (i' := 19) (P := False) rfl rfl cd_eq1 False.elim (fun _ => ?_)
      refine g_pure 1 (i' := 10) (lv' := [some (vR 800)]) (st' := [vR 800]) rfl ?_
      have hF1 := hF.mf h1.2.1
      have hC1 := hC0.mf h1.2.1
      refine lnQ_call rfl (args := [vR 800]) (rest := []) rfl rfl (Nat.zero_le _) hF1 (s_221 (d := d) hA hAt (hF1.2.trans h12) h1.1 hC1 (by omega)) (fun e s2 he hF2 h11 => ?_) (fun q s2 hq hF2 hM2 hC2 => ?_)
      · refine g_if1 (i' := 14) (P := False) rfl rfl cd_ne0 False.elim (fun _ => ?_)
        refine g_pure 1 (i' := 13) (lv' := [some (vR 800)]) (st' := [vI 0]) rfl ?_
        rw [e0, bnL_l he]
        exact g_bret rfl g_nar0 ⟨s2, ⟨hF2, h11⟩, rfl⟩
      · have g2 := pAll_g hA g1.2.1 E q.1 q.2 hq
        refine g_if1 (i' := 14) (P := True) rfl rfl cd_ne1 (fun _ => ?_) (fun h => absurd trivial h)
        refine g_pure 3 (i' := 17) (lv' := [some (vR 800)]) (st' := [vI (nI 0), vI (nI 16), vR 800]) rfl ?_
        refine g_cV0E (p' := p) rfl (args := [vR 800, vI (nI 16), vI (nI 0)]) (rest := []) rfl rfl rfl (s_224 (d := d + 5) hC2 (by omega)) (fun s3 hs3 => ?_)
        refine g_pure 1 (i' := 5) (lv' := [some (vR 800)]) (st' := []) rfl ?_
        rw [e0, bnL_r (k := q.1) (E := q.2) hq]
        exact l_220 hA hAt h12 f q.1 (q.2 ++ [(16, 0)]) s3 (by omega) (by rw [List.length_append]; show q.2.length + 1 + 1 ≤ _; omega) (hM2.em hs3) (hs3.lc (q := (16, 0)) hC2) (hF2.em hs3)
    · refine g_pure 2 (i' := 7) (lv' := [some (vR 800)]) (st' := [vS 76, vR 800]) rfl ?_
      refine g_cV1E (p' := p) rfl (args := [vR 800, vS 76]) (rest := []) rfl rfl rfl (s_214b (d := d + 2) (by decide) (wL_of (by decide)) hM (show ¬ isW T n k (am_SL 76) from c)) (fun s1 h1 => ?_)
      refine g_if1 (i' := 19) (P := True) rfl rfl cd_eq0 (fun _ => ?_) (fun h => absurd trivial h)
      refine g_pure 1 (i' := 20) (lv' := [some (vR 800)]) (st' := [vI 1]) rfl ?_
      rw [show pOr T n A (f + 1) k E = .inr (k, E) from sel_f c]
      exact g_bret rfl g_nar1 ⟨s1, ⟨hF.mf h1.2.1, h1.1, hC0.mf h1.2.1⟩, rfl⟩
theorem s_220 {X : Nat × (Nat → Int32)} {d : Nat} {p : Nat → Nat} {sg0 : Mg} {T : Nat → Int32} {n : Nat} {A : Nat → LE → LR} {g : Nat} (hA : ∀ k, k ≤ n → ∀ E, LG n k E (A k E)) (hAt : AtM X p T n (d + 5) g A) (h12 : sg0 800 12 = nI g) {k : Nat} {E : LE} (hM : MK T n k sg0) (hC0 : LCm E sg0) (hE : E.length + 1 ≤ k) : gF X (d + 6 + 1) 220 [vR 800] p sg0 (lnQ (pCnd T n A k E) T n sg0 p) := by
  have hk := hM.2.1
  have e0 : pCnd T n A k E = bnL (pAll T n A k E) (fun k1 E1 => pOr T n A 401 k1 E1) := rfl
  refine g_in (cd := k_220) (nL := 1) (rc := 13) rfl (g_A (a := 800) (kd := 0) (n := 12) rfl (by decide)) (g_c1 rfl) ?_
  show gW X (d + 6) k_220 0 [some (vR 800)] [] p sg0 _
  refine g_pure 1 (i' := 1) (lv' := [some (vR 800)]) (st' := [vR 800]) rfl ?_
  refine lnQ_call rfl (args := [vR 800]) (rest := []) rfl rfl (Nat.zero_le _) (FQd.rf sg0) (s_221 (d := d) hA hAt h12 hM hC0 hE) (fun e s2 he hF2 h11 => ?_) (fun q s2 hq hF2 hM2 hC2 => ?_)
  · refine g_if1 (i' := 5) (P := False) rfl rfl cd_ne0 False.elim (fun _ => ?_)
    refine g_pure 1 (i' := 4) (lv' := [some (vR 800)]) (st' := [vI 0]) rfl ?_
    rw [e0, bnL_l he]
    exact g_bret rfl g_nar0 ⟨s2, ⟨hF2, h11⟩, rfl⟩
  · have g2 := pAll_g hA hk E q.1 q.2 hq
    have hn := hM.1.1
    refine g_if1 (i' := 5) (P := True) rfl rfl cd_ne1 (fun _ => ?_) (fun h => absurd trivial h)
    rw [e0, bnL_r (k := q.1) (E := q.2) hq]
    exact l_220 hA hAt h12 401 q.1 q.2 s2 (by omega) (by omega) hM2 hC2 hF2
