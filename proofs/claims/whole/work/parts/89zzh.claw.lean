/-! LAW: the whole text, in the class (made by wip/whole/gen89zzh.py) -/
section
variable {T : Nat → Int32} {n : Nat}
theorem plCond_g {k : Nat} (hk : k ≤ n) (E : LE) : LGe n k E (plCond T n k E) := fun k' E' h => by
  unfold plCond at h
  by_cases c : isW T n k (am_SL 20)
  · rw [sel_t c] at h
    have g1 := nx_w hk (by decide) c
    have g2 := pCnd_g (fun k hk E => pAtm_g 6 hk E) g1.2.1 E _ _ h
    omega
  · rw [sel_f c] at h
    cases h
    exact ⟨Nat.le_refl _, hk, Nat.le_refl _⟩
theorem plGain_g {k kd : Nat} (hk : k ≤ n) {q : Nat × Nat} (h : plGain T n k kd = .inr q) : k ≤ q.1 ∧ q.1 ≤ n := by
  unfold plGain at h
  by_cases c : kd = 2
  · rw [if_pos c] at h
    by_cases c2 : tkP T n k 3 0 100
    · rw [sel_t c2] at h
      have := nx_u hk c2.1
      cases h
      exact ⟨Nat.le_of_lt this.1, this.2.1⟩
    · rw [sel_f c2] at h; cases h
  · rw [if_neg c] at h
    cases h
    exact ⟨Nat.le_refl _, hk⟩
theorem plLine_k {k : Nat} {E : LE} {L : LLn} (h : ¬ kdW T n k < 3) : plLine T n k E L = .inl (spK T n k) := sel_f h
theorem plLine_g {k f : Nat} {E : LE} {L : LLn} (h : kdW T n k < 3) (h2 : plGain T n (nxK T n k) (kdW T n k) = .inl f) : plLine T n k E L = .inl f := by
  unfold plLine
  rw [sel_t h, h2]
theorem plLine_c {k f : Nat} {E : LE} {L : LLn} {g : Nat × Nat} (h : kdW T n k < 3) (h2 : plGain T n (nxK T n k) (kdW T n k) = .inr g) (h3 : plCond T n g.1 E = .inl f) : plLine T n k E L = .inl f := by
  unfold plLine
  rw [sel_t h, h2]
  show (match plCond T n g.1 E with | .inl f => _ | .inr q => _) = _
  rw [h3]
theorem plLine_r {k : Nat} {E : LE} {L : LLn} {g : Nat × Nat} {q : Nat × LE} (h : kdW T n k < 3) (h2 : plGain T n (nxK T n k) (kdW T n k) = .inr g) (h3 : plCond T n g.1 E = .inr q) : plLine T n k E L = .inr (q.1, q.2, L ++ [(kdW T n k, g.2, q.2.length)]) := by
  unfold plLine
  rw [sel_t h, h2]
  show (match plCond T n g.1 E with | .inl f => _ | .inr q => _) = _
  rw [h3]
/-- a line read goes on -/
theorem plLine_n {k : Nat} (hk : k ≤ n) {E : LE} {L : LLn} (hE : E.length ≤ k) {q : Nat × LE × LLn} (h : plLine T n k E L = .inr q) : k < q.1 ∧ q.1 ≤ n ∧ q.2.1.length ≤ q.1 ∧ q.2.2.length = L.length + 1 := by
  by_cases c : kdW T n k < 3
  · have g1 := nx_k hk c
    cases hG : plGain T n (nxK T n k) (kdW T n k) with
    | inl f => rw [plLine_g c hG] at h; cases h
    | inr g =>
      have g2 := plGain_g g1.2.1 hG
      cases hC : plCond T n g.1 E with
      | inl f => rw [plLine_c c hG hC] at h; cases h
      | inr v =>
        rw [plLine_r c hG hC] at h
        have g3 := plCond_g g2.2 E v.1 v.2 hC
        cases h
        refine ⟨by show k < v.1; omega, g3.2.1, by show v.2.length ≤ v.1; omega, ?_⟩
        show (L ++ [(kdW T n k, g.2, v.2.length)]).length = _
        rw [List.length_append]
        rfl
  · rw [plLine_k c] at h; cases h
end
section
variable {X : Nat × (Nat → Int32)} {d : Nat} {p : Nat → Nat} {sg0 s : Mg} {T : Nat → Int32} {n k l : Nat} {E : LE} {L : LLn} {Q : am_R → Prop}
theorem cond_49 {kd g : Nat} {gv : Int32} (hgv : gv = if kd = 2 then nI g else 0) (hT : CT T n k s) (hC : LCd E s) (hL : LLd L s) (hF : FK sg0 s) (hE : E.length ≤ k) (hl : L.length < 12)
    (go : ∀ (q : Nat × LE) s2 z2 z3, plCond T n k E = .inr q → CT T n q.1 s2 → LCd q.2 s2 → LLd (L ++ [(kd, g, q.2.length)]) s2 → FK sg0 s2 → gW X (d + 18) k_49 48 [some (vR 5), some (vI (nI l)), z2, z3] [] p s2 Q) (bad : ∀ f r, plCond T n k E = .inl f → LFl f sg0 p r → Q r) :
    gW X (d + 18) k_49 32 [some (vR 5), some (vI (nI l)), some (vI (nI kd)), some (vI gv)] [] p s Q := by
  have hk := hT.1
  have hn := hT.2.1
  have close : ∀ (q : Nat × LE) s2, plCond T n k E = .inr q → CT T n q.1 s2 → LCd q.2 s2 → LLd L s2 → FK sg0 s2 → q.2.length ≤ 400 → gW X (d + 18) k_49 43 [some (vR 5), some (vI (nI l)), some (vI (nI kd)), some (vI gv)] [] p s2 Q := fun q s2 hq cT cC cL cF h4 => by
    refine g_pure 4 (i' := 47) (lv' := [some (vR 5), some (vI (nI l)), some (vI (nI kd)), some (vI gv)]) (st' := [vI gv, vI (nI kd), vR 308]) rfl ?_
    subst hgv
    refine g_cV0E (p' := p) rfl (args := [vR 308, vI (nI kd), vI (if kd = 2 then nI g else 0)]) (rest := []) rfl rfl rfl (s_43 (d := d + 17) cC cL hl h4) (fun s3 hs => ?_)
    exact go q s3 _ _ hq (cT.eq (hs.1 1 (by decide) (by decide) (by decide) (by decide)) (hs.1 2 (by decide) (by decide) (by decide) (by decide))) hs.2.1 hs.2.2 (cF.tr ⟨fun c c1 c2 => hs.1 c (by omega) (by omega) (by omega) (by omega), fun f _ _ _ => by rw [hs.1 1 (by decide) (by decide) (by decide) (by decide)]⟩)
  refine g_pure 3 (i' := 35) (lv' := [some (vR 5), some (vI (nI l)), some (vI (nI kd)), some (vI gv)]) (st' := [vS 20, vR 1]) rfl ?_
  refine g_cV1 rfl (args := [vR 1, vS 20]) (rest := []) rfl rfl rfl (s_74 (d := d + 17) (by decide) hT) ?_
  refine g_if1 (i' := 43) (P := ¬ dcN (isW T n k (am_SL 20)) = true) rfl rfl g_eqB (fun c => ?_) (fun c => ?_)
  · exact close (k, E) s (sel_f (dcN_n.mp c)) hT hC hL hF (by show E.length ≤ 400; omega)
  · have c := dcN_i.mp (Classical.not_not.mp c)
    have g1 := nx_w hk (by decide) c
    have e0 : plCond T n k E = pCnd T n (pAtm T n 6) (nxK T n k) E := sel_t c
    refine g_pure 2 (i' := 39) (lv' := [some (vR 5), some (vI (nI l)), some (vI (nI kd)), some (vI gv)]) (st' := [vR 1]) rfl ?_
    refine g_cV0E (p' := p) rfl (args := [vR 1]) (rest := []) rfl rfl rfl (s_70 (d := d + 17) hT) (fun s2 hs => ?_)
    refine g_pure 2 (i' := 42) (lv' := [some (vR 5), some (vI (nI l)), some (vI (nI kd)), some (vI gv)]) (st' := [vI (nI 0), vR 5]) rfl ?_
    have hF2 := hF.tr hs.2.fk
    have hA : AtC X p T n (d + 13 + 4) 0 (pAtm T n 6) := at_52 6 0 rfl d
    refine lnL_call rfl (args := [vR 5, vI (nI 0)]) (rest := []) rfl rfl (Nat.zero_le _) (FL.rf s2) (s_51 (d := d + 13) (fun k hk E => pAtm_g 6 hk E) (by decide) hA hs.1 (hC.cn hs.2) (by omega)) (fun f r he hr => bad f r (e0.trans he) (LFl.fk hF2 hr)) (fun q s4 hq hF4 hT4 hC4 => ?_)
    have g2 := pCnd_g (fun k hk E => pAtm_g 6 hk E) g1.2.1 E q.1 q.2 hq
    exact close q s4 (e0.trans hq) hT4 hC4 ((hL.cn hs.2).fl hF4) (hF2.tr hF4.fk) (by omega)
theorem ln_49 {z2 z3 : Option AV} (hT : CT T n k s) (hC : LCd E s) (hL : LLd L s) (hF : FK sg0 s) (hE : E.length ≤ k) (hl : L.length < 12)
    (go : ∀ q s2 z2 z3, plLine T n k E L = .inr q → CT T n q.1 s2 → LCd q.2.1 s2 → LLd q.2.2 s2 → FK sg0 s2 → gW X (d + 18) k_49 48 [some (vR 5), some (vI (nI l)), z2, z3] [] p s2 Q) (bad : ∀ f r, plLine T n k E L = .inl f → LFl f sg0 p r → Q r) :
    gW X (d + 18) k_49 17 [some (vR 5), some (vI (nI l)), z2, z3] [] p s Q := by
  have hk := hT.1
  have hn := hT.2.1
  refine g_pure 1 (i' := 18) (lv' := [some (vR 5), some (vI (nI l)), z2, z3]) (st' := [vR 5]) rfl ?_
  refine g_calV rfl (args := [vR 5]) (rest := []) rfl rfl (Nat.zero_le _) (s_50 (d := d + 16) hT hC) (fun r hr => ?_)
  rcases hr with ⟨c, s1, hs, rfl⟩ | ⟨c, s1, hs, rfl⟩
  rotate_left
  · exact gK_x (bad _ _ (plLine_k c) (LFl.cf hF hs))
  have g1 := nx_k hk c
  have hF1 := hF.tr hs.2.fk
  refine gK_v ?_
  have nxt : ∀ (g : Nat × Nat) (gv : Int32) s2, plGain T n (nxK T n k) (kdW T n k) = .inr g → (gv = if kdW T n k = 2 then nI g.2 else 0) → CT T n g.1 s2 → LCd E s2 → LLd L s2 → FK sg0 s2 → gW X (d + 18) k_49 32 [some (vR 5), some (vI (nI l)), some (vI (nI (kdW T n k))), some (vI gv)] [] p s2 Q := fun g gv s2 hg hgv cT cC cL cF => by
    have g2 := plGain_g g1.2.1 hg
    exact cond_49 hgv cT cC cL cF (by omega) hl (fun q s3 z2 z3 hq dT dC dL dF => go _ s3 z2 z3 (plLine_r c hg hq) dT dC dL dF) (fun f r hf hr => bad f r (plLine_c c hg hf) hr)
  refine g_pure 3 (i' := 22) (lv' := [some (vR 5), some (vI (nI l)), some (vI (nI (kdW T n k))), z3]) (st' := [vI (nI 2), vI (nI (kdW T n k))]) rfl ?_
  refine g_if2 (i' := 30) (P := ¬ kdW T n k = 2) rfl rfl (not_congr (nI_eq (by omega) (by decide))) (fun c2 => ?_) (fun c2 => ?_)
  · refine g_pure 2 (i' := 32) (lv' := [some (vR 5), some (vI (nI l)), some (vI (nI (kdW T n k))), some (vI 0)]) (st' := []) rfl ?_
    exact nxt (nxK T n k, 1) 0 s1 (by unfold plGain; rw [if_neg c2]) (by rw [if_neg c2]) hs.1 (hC.cn hs.2) (hL.cn hs.2) hF1
  · have c2 := Classical.not_not.mp c2
    refine g_pure 5 (i' := 28) (lv' := [some (vR 5), some (vI (nI l)), some (vI (nI (kdW T n k))), z3]) (st' := [vI 99, vI (nI 0), vI (nI 3), vR 1]) rfl ?_
    by_cases c3 : tkP T n (nxK T n k) 3 0 100
    · refine g_cV1E (p' := p) rfl (args := [vR 1, vI (nI 3), vI (nI 0), vI 99]) (rest := []) rfl rfl rfl (s_77a (d := d + 16) (m := 100) hs.1 (by decide) (by decide) (by decide) (by decide) c3) (fun s2 hs2 => ?_)
      refine g_pure 2 (i' := 32) (lv' := [some (vR 5), some (vI (nI l)), some (vI (nI (kdW T n k))), some (vI (nI (numK T n (nxK T n k))))]) (st' := []) rfl ?_
      exact nxt (nxK T n (nxK T n k), numK T n (nxK T n k)) _ s2 (by unfold plGain; rw [if_pos c2, sel_t c3]) (by rw [if_pos c2]) hs2.1 ((hC.cn hs.2).cn hs2.2) ((hL.cn hs.2).cn hs2.2) (hF1.tr hs2.2.fk)
    · exact g_cVxE rfl (args := [vR 1, vI (nI 3), vI (nI 0), vI 99]) (rest := []) rfl rfl rfl (s_77b (d := d + 16) (m := 100) hs.1 (by decide) (by decide) (by decide) (by decide) c3) (fun s2 hs2 => bad _ _ (plLine_g c (by unfold plGain; rw [if_pos c2, sel_f c3])) (LFl.cf hF1 hs2))
end
