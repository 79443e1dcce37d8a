/-! LAW: lines, in the reference (made by wip/whole/gen89zzo.py) -/
/-- reading the law in the reference keeps all but this -/
def FW (sg s : Mg) : Prop := (∀ c, c ≠ 800 → c ≠ 801 → s c = sg c) ∧ (∀ f, f ≠ 9 → f ≠ 11 → f ≠ 12 → f ≠ 15 → s 800 f = sg 800 f) ∧ ∀ i, i < 1558 → s 801 i = sg 801 i
theorem FW.rf (sg : Mg) : FW sg sg := ⟨fun _ _ _ => rfl, fun _ _ _ _ _ => rfl, fun _ _ => rfl⟩
theorem FW.tr {sg s s' : Mg} (h : FW sg s) (g : FW s s') : FW sg s' := ⟨fun c a b => (g.1 c a b).trans (h.1 c a b), fun f a b c d => (g.2.1 f a b c d).trans (h.2.1 f a b c d), fun i hi => (g.2.2 i hi).trans (h.2.2 i hi)⟩
theorem FQ.fw {sg s : Mg} (h : FQ sg s) : FW sg s := ⟨h.1, h.2.1, fun i hi => h.2.2 i (by omega)⟩
theorem FW.mf {sg s s' : Mg} (h : FW sg s) (g : MF s s') : FW sg s' := h.tr (FQd.of g).1.fw
theorem FW.m801 {sg s : Mg} {i : Nat} {x : Int32} (h : FW sg s) (hi : 1558 ≤ i) : FW sg (mu s 801 i x) := ⟨fun c c1 c2 => (mu_ne c2).trans (h.1 c c1 c2), fun f a b c d => by rw [mu_ne (by decide)]; exact h.2.1 f a b c d, fun j hj => (mu_idx (by omega)).trans (h.2.2 j hj)⟩
theorem FW.m12 {sg s : Mg} {x : Int32} (h : FW sg s) : FW sg (mu s 800 12 x) := ⟨fun c c1 c2 => (mu_ne c1).trans (h.1 c c1 c2), fun f a b c e => (mu_idx c).trans (h.2.1 f a b c e), fun i hi => by rw [mu_ne (by decide)]; exact h.2.2 i hi⟩
theorem MK.m801 {T : Nat → Int32} {n k i : Nat} {s : Mg} {x : Int32} (h : MK T n k s) : MK T n k (mu s 801 i x) := h.eq (mu_ne (by decide)) (mu_ne (by decide))
theorem LCm.m801 {E : LE} {i : Nat} {s : Mg} {x : Int32} (h : LCm E s) (hi : i < 1607) : LCm E (mu s 801 i x) := ⟨by rw [mu_ne (by decide)]; exact h.1, fun j hj => by rw [mu_idx (by omega), mu_idx (by omega)]; exact h.2 j hj⟩
theorem NRm {T : Nat → Int32} {n k i : Nat} {s : Mg} {x : Int32} (h : ML T n k s) : ML T n k (mu s 801 i x) := by
  unfold ML MX at h ⊢
  rw [mu_ne (by decide), mu_ne (by decide)]
  exact h
/-- the lines in the draft -/
def LLm (L : LLn) (s : Mg) : Prop := ∀ i, i < L.length → s 801 (1559 + 4 * i) = nI (L.getD i (0, 0, 0)).1 ∧ s 801 (1559 + 4 * i + 1) = nI (L.getD i (0, 0, 0)).2.1 ∧ s 801 (1559 + 4 * i + 2) = nI (if i = 0 then 0 else (L.getD (i - 1) (0, 0, 0)).2.2) ∧ s 801 (1559 + 4 * i + 3) = nI (L.getD i (0, 0, 0)).2.2
theorem LLm.lo {L : LLn} {sg s : Mg} (h : LLm L sg) (e : ∀ i, i < 1559 + 4 * L.length → s 801 i = sg 801 i) : LLm L s := fun i hi => by
  rw [e _ (by omega), e _ (by omega), e _ (by omega), e _ (by omega)]
  exact h i hi
/-- how a line ends in the reference -/
def lnLm (R : Nat ⊕ (Nat × LE × LLn)) (T : Nat → Int32) (n : Nat) (sg : Mg) (p : Nat → Nat) (r : am_R) : Prop := match R with
  | .inl f => ∃ s, (FW sg s ∧ s 800 11 = nI f) ∧ r = gRv p s 0
  | .inr q => ∃ s, (FW sg s ∧ MK T n q.1 s ∧ LCm q.2.1 s ∧ LLm q.2.2 s) ∧ r = gRv p s 1
section
variable {X : Nat × (Nat → Int32)} {d : Nat} {p : Nat → Nat} {T : Nat → Int32} {n k l I kd gn : Nat} {E : LE} {L : LLn} {sg0 s : Mg} {Q : am_R → Prop}
/-- the line's end -/
theorem f_219 (hl : L.length = l) (h12 : l < 12) (hI : I = 1559 + 4 * l) (hL : LLm L s) (e0 : s 801 I = nI kd) (e1 : s 801 (I + 1) = nI gn) (e2 : s 801 (I + 2) = nI (if l = 0 then 0 else (L.getD (l - 1) (0, 0, 0)).2.2)) (hM : MK T n k s) (hC : LCm E s) (hF : FW sg0 s) : gW X d k_219 84 [some (vR 800), some (vI (nI l)), some (vI (nI I))] [] p s (lnLm (.inr (k, E, L ++ [(kd, gn, E.length)])) T n sg0 p) := by
  refine g_pure 6 (i' := 90) (lv' := [some (vR 800), some (vI (nI l)), some (vI (nI I))]) (st' := [vR 800, vI (nI I + 3), vR 801]) rfl ?_
  refine g_getI rfl (g_A (a := 800) (kd := 0) (n := 12) rfl (by decide)) (show _ = nI E.length from hC.1) ?_
  refine g_ast rfl (g_A (a := 801) (kd := 1) (n := 2407) rfl (by decide)) (by decide) (show nI I + 3 = nI (I + 3) from nI_add I 3) (by omega) ?_
  refine g_pure 1 (i' := 93) (lv' := [some (vR 800), some (vI (nI l)), some (vI (nI I))]) (st' := [vI 1]) rfl ?_
  refine g_bret rfl g_nar1 ⟨_, ⟨hF.m801 (i := I + 3) (by omega), hM.m801, hC.m801 (i := I + 3) (by omega), fun i hi => ?_⟩, rfl⟩
  rw [List.length_append] at hi
  have hi : i < L.length + 1 := hi
  rw [getD_app hi]
  by_cases c : i = L.length
  · subst c
    rw [if_pos rfl, ← show I = 1559 + 4 * L.length by omega, mu_idx (by omega), mu_idx (by omega), mu_idx (by omega), mu_self]
    refine ⟨e0, e1, ?_, rfl⟩
    rw [e2, ← hl]
    by_cases c0 : L.length = 0
    · rw [if_pos c0, if_pos c0]
    · rw [if_neg c0, if_neg c0, getD_app (by omega), if_neg (by omega)]
  · rw [if_neg c, mu_idx (by omega), mu_idx (by omega), mu_idx (by omega), mu_idx (by omega)]
    have g := hL i (by omega)
    refine ⟨g.1, g.2.1, ?_, g.2.2.2⟩
    rw [g.2.2.1]
    by_cases c0 : i = 0
    · rw [if_pos c0, if_pos c0]
    · rw [if_neg c0, if_neg c0, getD_app (by omega), if_neg (by omega)]
/-- the condition -/
theorem c_219 (hl : L.length = l) (h12 : l < 12) (hI : I = 1559 + 4 * l) (hL : LLm L s) (e0 : s 801 I = nI kd) (e1 : s 801 (I + 1) = nI gn) (e2 : s 801 (I + 2) = nI (if l = 0 then 0 else (L.getD (l - 1) (0, 0, 0)).2.2)) (hM : MK T n k s) (hC : LCm E s) (hF : FW sg0 s) (hE : E.length + 1 ≤ k) (h0 : s 800 12 = nI 0) {R : Nat ⊕ (Nat × LE × LLn)} (hR1 : ∀ f, plCond T n k E = .inl f → R = .inl f) (hR2 : ∀ q, plCond T n k E = .inr q → R = .inr (q.1, q.2, L ++ [(kd, gn, q.2.length)])) : gW X (d + 26) k_219 75 [some (vR 800), some (vI (nI l)), some (vI (nI I))] [] p s (lnLm R T n sg0 p) := by
  have hk := hM.2.1
  refine g_pure 2 (i' := 77) (lv' := [some (vR 800), some (vI (nI l)), some (vI (nI I))]) (st' := [vS 66, vR 800]) rfl ?_
  by_cases c : isW T n k (am_SL 20)
  · have g1 := nx_w hk (by decide) c
    have eP : plCond T n k E = pCnd T n (pAtm T n 6) (nxK T n k) E := sel_t c
    refine g_cV1E (p' := p) rfl (args := [vR 800, vS 66]) (rest := []) rfl rfl rfl (s_214a (d := d + 22) (by decide) (wL_of (by decide)) hM (show isW T n k (am_SL 66) from c)) (fun s1 h1 => ?_)
    refine g_if1 (i' := 84) (P := False) rfl rfl cd_eq1 False.elim (fun _ => ?_)
    refine g_pure 1 (i' := 80) (lv' := [some (vR 800), some (vI (nI l)), some (vI (nI I))]) (st' := [vR 800]) rfl ?_
    have hG : s1 800 12 = nI 0 := (h1.2.1.2 12 (by decide) (by decide)).trans h0
    have b1 : ∀ i, s1 801 i = s 801 i := fun i => by rw [h1.2.1.1 801 (by decide)]
    refine lnQ_call (sg := s1) rfl (args := [vR 800]) (rest := []) rfl rfl (Nat.zero_le _) (FQd.rf s1) (s_220 (d := d + 19) (A := pAtm T n 6) (g := 0) (fun k hk E => pAtm_g 6 hk E) (at_222 6 (d + 24) (Nat.le_refl _) (by omega)) hG h1.1 (hC.mf h1.2.1) (by omega)) (fun f s3 he hF3 h11 => ?_) (fun q s3 hq hF3 hM3 hC3 => ?_)
    · refine g_if1 (i' := 84) (P := False) rfl rfl cd_ne0 False.elim (fun _ => ?_)
      refine g_pure 1 (i' := 83) (lv' := [some (vR 800), some (vI (nI l)), some (vI (nI I))]) (st' := [vI 0]) rfl ?_
      rw [hR1 f (eP.trans he)]
      exact g_bret rfl g_nar0 ⟨s3, ⟨(hF.mf h1.2.1).tr hF3.fw, h11⟩, rfl⟩
    · refine g_if1 (i' := 84) (P := True) rfl rfl cd_ne1 (fun _ => ?_) (fun h => absurd trivial h)
      have b3 : ∀ i, i < 1607 → s3 801 i = s 801 i := fun i hi => (hF3.1.2.2 i hi).trans (b1 i)
      rw [hR2 q (eP.trans hq)]
      exact f_219 (d := d + 26) hl h12 hI (hL.lo (fun i hi => b3 i (by omega))) ((b3 _ (by omega)).trans e0) ((b3 _ (by omega)).trans e1) ((b3 _ (by omega)).trans e2) hM3 hC3 ((hF.mf h1.2.1).tr hF3.1.fw)
  · have eP : plCond T n k E = .inr (k, E) := sel_f c
    refine g_cV1E (p' := p) rfl (args := [vR 800, vS 66]) (rest := []) rfl rfl rfl (s_214b (d := d + 22) (by decide) (wL_of (by decide)) hM (show ¬ isW T n k (am_SL 66) from c)) (fun s1 h1 => ?_)
    refine g_if1 (i' := 84) (P := True) rfl rfl cd_eq0 (fun _ => ?_) (fun h => absurd trivial h)
    have b1 : ∀ i, s1 801 i = s 801 i := fun i => by rw [h1.2.1.1 801 (by decide)]
    rw [hR2 (k, E) eP]
    exact f_219 (d := d + 26) hl h12 hI (hL.lo (fun i _ => b1 i)) ((b1 _).trans e0) ((b1 _).trans e1) ((b1 _).trans e2) h1.1 (hC.mf h1.2.1) (hF.mf h1.2.1)
/-- the gain told -/
theorem g_219 (hl : L.length = l) (h12 : l < 12) (hI : I = 1559 + 4 * l) (hL : LLm L s) (hO : EOK E L) (e0 : s 801 I = nI kd) (hg : gn < 100) (hM : MK T n k s) (hC : LCm E s) (hF : FW sg0 s) (hE : E.length + 1 ≤ k) {R : Nat ⊕ (Nat × LE × LLn)} (hR1 : ∀ f, plCond T n k E = .inl f → R = .inl f) (hR2 : ∀ q, plCond T n k E = .inr q → R = .inr (q.1, q.2, L ++ [(kd, gn, q.2.length)])) : gW X (d + 26) k_219 54 [some (vR 800), some (vI (nI l)), some (vI (nI I))] [vI (nI gn), vI (nI (I + 1)), vR 801] p s (lnLm R T n sg0 p) := by
  refine g_ast rfl (g_A (a := 801) (kd := 1) (n := 2407) rfl (by decide)) (by decide) (show nI (I + 1) = nI (I + 1) from rfl) (by omega) ?_
  have f1 : ∀ i, i ≠ I + 1 → mu s 801 (I + 1) (nI gn) 801 i = s 801 i := fun i hi => mu_idx hi
  have f2 : mu s 801 (I + 1) (nI gn) 801 (I + 1) = nI gn := mu_self
  have hM1 : MK T n k (mu s 801 (I + 1) (nI gn)) := hM.m801
  have hC1 := hC.m801 (i := I + 1) (x := nI gn) (by omega)
  have hF1 := hF.m801 (i := I + 1) (x := nI gn) (by omega)
  generalize mu s 801 (I + 1) (nI gn) = s1 at f1 f2 hM1 hC1 hF1
  refine g_pure 5 (i' := 60) (lv' := [some (vR 800), some (vI (nI l)), some (vI (nI I))]) (st' := [vI (nI I + 1), vR 801]) rfl ?_
  refine g_ald rfl (g_A (a := 801) (kd := 1) (n := 2407) rfl (by decide)) (by decide) (show nI I + 1 = nI (I + 1) from nI_add I 1) (by omega) (show _ = nI gn from f2) ?_
  refine g_if1 (i' := 64) (P := 0 ≤ gn) rfl rfl (g_geN rfl rfl (by omega) (by decide)) (fun _ => ?_) (fun h => absurd (Nat.zero_le _) h)
  refine g_pure 6 (i' := 70) (lv' := [some (vR 800), some (vI (nI l)), some (vI (nI I))]) (st' := [vR 800, vI (nI I + 2), vR 801]) rfl ?_
  refine g_getI rfl (g_A (a := 800) (kd := 0) (n := 12) rfl (by decide)) (show _ = nI E.length from hC1.1) ?_
  refine g_ast rfl (g_A (a := 801) (kd := 1) (n := 2407) rfl (by decide)) (by decide) (show nI I + 2 = nI (I + 2) from nI_add I 2) (by omega) ?_
  have f3 : ∀ i, i ≠ I + 2 → mu s1 801 (I + 2) (nI E.length) 801 i = s1 801 i := fun i hi => mu_idx hi
  have f4 : mu s1 801 (I + 2) (nI E.length) 801 (I + 2) = nI E.length := mu_self
  have hM2 : MK T n k (mu s1 801 (I + 2) (nI E.length)) := hM1.m801
  have hC2 := hC1.m801 (i := I + 2) (x := nI E.length) (by omega)
  have hF2 := hF1.m801 (i := I + 2) (x := nI E.length) (by omega)
  generalize mu s1 801 (I + 2) (nI E.length) = s2 at f3 f4 hM2 hC2 hF2
  refine g_pure 2 (i' := 74) (lv' := [some (vR 800), some (vI (nI l)), some (vI (nI I))]) (st' := [vI (nI 0), vR 800]) rfl ?_
  refine g_putI rfl (g_A (a := 800) (kd := 0) (n := 12) rfl (by decide)) ?_
  have f5 : ∀ i, mu s2 800 12 (nI 0) 801 i = s2 801 i := fun i => by rw [mu_ne (by decide)]
  have hM3 := hM2.m12 (x := nI 0)
  have hC3 := hC2.m12 (x := nI 0)
  have hF3 := hF2.m12 (x := nI 0)
  have f6 : mu s2 800 12 (nI 0) 800 12 = nI 0 := mu_self
  generalize mu s2 800 12 (nI 0) = s3 at f5 hM3 hC3 hF3 f6
  refine c_219 (d := d) hl h12 hI (hL.lo (fun i hi => ?_)) ?_ ?_ ?_ hM3 hC3 hF3 hE f6 hR1 hR2
  · rw [f5, f3 _ (by omega), f1 _ (by omega)]
  · rw [f5, f3 _ (by omega), f1 _ (by omega)]; exact e0
  · rw [f5, f3 _ (by omega)]; exact f2
  · rw [f5, f4]
    unfold EOK at hO
    rw [hl] at hO
    rw [hO]
end
