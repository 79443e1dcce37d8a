/-! COUNTRY: a village, and which line it is, in the class (made by wip/whole/gen89zp.py) -/
theorem l_10 {X : Nat × (Nat → Int32)} {d : Nat} {p : Nat → Nat} {sg0 : Mg} {B : Nat} {T : Nat → Int32} {tn v m : Nat} (hv : v < 6) : ∀ (j q k w : Nat) (S : Nat → Int32) (s : Mg) (z4 : Option AV), q + j = m → Inv B S → sn S 0 = v → sn S 9 = m → w < 65536 → cwL 350 s S → cwD 300 s S → CT T tn k s → FRc sg0 s → gW X (d + 4) k_10 9 [some (vR 4), some (vI (nI v)), some (vI (nI w)), some (vI (nI q)), z4] [] p s (lnC (vlK T tn m v j q k w S) T tn sg0 p)
  | 0, q, k, w, S, s, z4, hq, hI, h0, h9, hw, hL, hD, hT, hF => by
    have b9 := hI.b9
    refine b_10_9 hI hL hD hT hF (by omega) (by omega) (by omega) (fun hge cT cF cL cD => ?_) (fun h => by omega)
    refine b_10_34 hI hL hD hT hF (by omega) (fun s1 e1 cT cF cL cD => ?_)
    rw [h0] at cL cD
    exact ⟨s1, ⟨cF, cT, cL, cD⟩, rfl⟩
  | j + 1, q, k, w, S, s, z4, hq, hI, h0, h9, hw, hL, hD, hT, hF => by
    have b9 := hI.b9
    refine b_10_9 hI hL hD hT hF (by omega) (by omega) (by omega) (fun h => by omega) (fun _ cT cF cL cD => ?_)
    refine g_pure 2 (i' := 16) (lv' := [some (vR 4), some (vI (nI v)), some (vI (nI w)), some (vI (nI q)), z4]) (st' := [vI (nI w), vR 4]) rfl ?_
    have hc : s 302 5 = nI m := (hD.f5.trans hI.c9).trans (by rw [h9])
    by_cases c : tkD T tn k m w
    · rw [show vlK T tn m v (j + 1) q k w S = vlK T tn m v j (q + 1) (nxK T tn k) (w ||| 2 ^ numK T tn k) (upd S (17 + 16 * v + q) (nI (numK T tn k))) from sel_t c]
      refine g_cV1E (p' := p) rfl (args := [vR 4, vI (nI w)]) (rest := []) rfl rfl rfl (s_12a (d := d) hT hc (by omega) hw c) (fun s2 hs2 => ?_)
      have hlt : numK T tn k < m := c.1.2.2.2
      refine g_pure 1 (i' := 18) (lv' := [some (vR 4), some (vI (nI v)), some (vI (nI w)), some (vI (nI q)), some (vI (nI (numK T tn k)))]) (st' := []) rfl ?_
      refine b_10_18 hI (hL.eqc (fun c c1 c2 => hs2.2.1 c (by omega))) (hD.eqc (fun c c1 => hs2.2.1 c (by omega))) hs2.1 (hF.cn hs2.2) (by omega) (by omega) (by omega) (by omega) (fun s3 e3 cT cF cL cD => ?_)
      rw [nI_orbit (by omega)]
      exact l_10 hv j (q + 1) (nxK T tn k) (w ||| 2 ^ numK T tn k) _ s3 _ (by omega) (hI.tabout h0.symm hv (by omega)) (by rw [sn_upd (by omega)]; exact h0) (by rw [sn_upd (by omega)]; exact h9) (Nat.or_lt_two_pow (n := 16) hw (Nat.pow_lt_pow_right (by decide) (by omega))) cL cD cT cF
    · rw [show vlK T tn m v (j + 1) q k w S = .inl (spK T tn k) from sel_f c]
      exact g_cVxE rfl (args := [vR 4, vI (nI w)]) (rest := []) rfl rfl rfl (s_12b (d := d) hT hc (by omega) hw c) (fun s2 hs2 => LF.of hF hs2)
theorem s_10 {X : Nat × (Nat → Int32)} {d : Nat} {p : Nat → Nat} {sg : Mg} {B : Nat} {S : Nat → Int32} (hI : Inv B S) (hL : cwL 350 sg S) (hD : cwD 300 sg S) {T : Nat → Int32} {tn tk : Nat} (hT : CT T tn tk sg) : gF X (d + 5) 10 [vR 4] p sg (lnC (prVil T tn tk S) T tn sg p) := by
  have b9 := hI.b9
  refine g_in (cd := k_10) (nL := 5) (rc := 2) rfl (g_A (a := 4) (kd := 0) (n := 1) rfl (by decide)) (g_c1 rfl) (b_10_0 hI hL hD hT (FRc.rf sg) (fun h0 s1 e1 cT cF cL cD => ?_) (fun h0 s1 e1 cT cF cL cD => ?_))
  · unfold prVil
    rw [sel_t h0]
    exact l_10 h0 (sn S 9) 0 _ 0 S s1 none (by omega) hI rfl rfl (by decide) cL cD cT cF
  · unfold prVil
    rw [sel_f h0]
    exact LF.of cF e1
theorem lnC_call {X : Nat × (Nat → Int32)} {d : Nat} {cd : List am_CE} {i : Nat} {lv : List (Option AV)} {p : Nat → Nat} {sg : Mg} {Q : am_R → Prop} {pc nx y j : Nat} {x : Int32} {R : PRs} {T : Nat → Int32} {n : Nat} (h : cd.drop i = (pc, .invokevirtual j, nx, 1, y, x) :: cd.drop (i + 1)) (hf : gF X d y [vR 4] p sg (lnC R T n sg p)) (g1 : ∀ f, R = .inl f → ∀ r, LF f sg p r → Q r) (g2 : ∀ q s, R = .inr q → (FRc sg s ∧ CT T n q.1 s ∧ cwL 350 s q.2 ∧ cwD 300 s q.2) → gW X d cd (i + 1) lv [] p s Q) : gW X d cd i lv [vR 4] p sg Q := by
  refine g_calV h (args := [vR 4]) (rest := []) rfl rfl (Nat.zero_le _) hf (fun r hr => ?_)
  cases hR : R with
  | inl f =>
    rw [hR] at hr
    have := g1 f hR r hr
    obtain ⟨s, a1, a2, a3, rfl⟩ := hr
    exact gK_x this
  | inr q =>
    rw [hR] at hr
    obtain ⟨s, hs, rfl⟩ := hr
    exact gK_0 (g2 q s hR hs)
noncomputable def prFea (T : Nat → Int32) (n k : Nat) (S : Nat → Int32) : PRs := sel (tkP T n (nxK T n k) 4 0 (sn S 9)) (.inr (nxK T n (nxK T n k), upd S 10 (S 10 ||| (1 <<< (nI (numK T n (nxK T n k)) &&& 31))))) (.inl (spK T n (nxK T n k)))
noncomputable def prCha (T : Nat → Int32) (n k : Nat) (S : Nat → Int32) : PRs := sel (tkP T n (nxK T n k) 4 0 101) (.inr (nxK T n (nxK T n k), upd S 15 (nI (numK T n (nxK T n k))))) (.inl (spK T n (nxK T n k)))
noncomputable def prRest (T : Nat → Int32) (n k : Nat) (S : Nat → Int32) : PRs := sel (isW T n k (am_SL 12)) (prDay T n k S) (sel (isW T n k (am_SL 13)) (prFea T n k S) (sel (isW T n k (am_SL 14)) (prCha T n k S) (sel (isW T n k (am_SL 15)) (prMis T n k S) (.inl (spK T n k)))))
/-- a line of a text of the country -/
noncomputable def prLine (T : Nat → Int32) (n k : Nat) (S : Nat → Int32) : PRs := sel (isW T n k (am_SL 2)) (prVil T n k S) (sel (isW T n k (am_SL 3)) (prPer T n k S) (sel (isW T n k (am_SL 4)) (prFac T n k S) (sel (isW T n k (am_SL 5)) (prRoa T n k S) (sel (isW T n k (am_SL 6)) (prDeb T n k S) (sel (isW T n k (am_SL 10)) (prTas T n k S) (prRest T n k S))))))
/-- .. as the class's methods answer -/
def lnV (R : PRs) (T : Nat → Int32) (n : Nat) (sg : Mg) (p : Nat → Nat) (r : am_R) : Prop := match R with
  | .inl f => LF f sg p r
  | .inr q => ∃ s, (FRc sg s ∧ CT T n q.1 s ∧ cwL 350 s q.2 ∧ cwD 300 s q.2) ∧ r = gRv p s 1
def isT9 (T : Nat → Int32) (n k : Nat) : Prop := ∃ j, j ∈ [2, 3, 4, 5, 6, 10] ∧ isW T n k (am_SL j)
theorem s_9 {X : Nat × (Nat → Int32)} {d : Nat} {p : Nat → Nat} {sg : Mg} {B : Nat} {S : Nat → Int32} (hI : Inv B S) (hL : cwL 350 sg S) (hD : cwD 300 sg S) {T : Nat → Int32} {tn tk : Nat} (hT : CT T tn tk sg) : gF X (d + 7) 9 [vR 4] p sg (fun r => (¬ isT9 T tn tk ∧ prLine T tn tk S = prRest T tn tk S ∧ r = gRv p sg 0) ∨ isT9 T tn tk ∧ lnV (prLine T tn tk S) T tn sg p r) := by
  refine g_in (cd := k_9) (nL := 1) (rc := 2) rfl (g_A (a := 4) (kd := 0) (n := 1) rfl (by decide)) (g_c1 rfl) ?_
  show gW X (d + 6) k_9 0 [some (vR 4)] [] p sg _
  unfold prLine
  refine g_pure 3 (i' := 3) (lv' := [some (vR 4)]) (st' := [vS 2, vR 1]) rfl ?_
  refine g_cV1 rfl (args := [vR 1, vS 2]) (rest := []) rfl rfl rfl (s_74 (d := d + 5) (by decide) hT) ?_
  refine g_if1 (i' := 8) (P := ¬ dcN (isW T tn tk (am_SL 2)) = true) rfl rfl g_eqB (fun n2 => ?_) (fun h => ?_)
  rotate_left
  · have h := Classical.not_not.mp h
    refine g_pure 1 (i' := 6) (lv' := [some (vR 4)]) (st' := [vR 4]) rfl ?_
    refine lnC_call rfl (s_10 (d := d + 1) hI hL hD hT) (fun f hf r hr => ?_) (fun q s hq hs => ?_)
    · exact Or.inr ⟨⟨2, by decide, dcN_i.mp h⟩, by rw [sel_t (dcN_i.mp h), hf]; exact hr⟩
    · refine g_pure 2 (i' := 51) (lv' := [some (vR 4)]) (st' := [vI 1]) rfl ?_
      exact g_bret rfl g_nar1 (Or.inr ⟨⟨2, by decide, dcN_i.mp h⟩, by rw [sel_t (dcN_i.mp h), hq]; exact ⟨s, hs, rfl⟩⟩)
  have n2 := dcN_n.mp n2
  refine g_pure 3 (i' := 11) (lv' := [some (vR 4)]) (st' := [vS 3, vR 1]) rfl ?_
  refine g_cV1 rfl (args := [vR 1, vS 3]) (rest := []) rfl rfl rfl (s_74 (d := d + 5) (by decide) hT) ?_
  refine g_if1 (i' := 16) (P := ¬ dcN (isW T tn tk (am_SL 3)) = true) rfl rfl g_eqB (fun n3 => ?_) (fun h => ?_)
  rotate_left
  · have h := Classical.not_not.mp h
    refine g_pure 1 (i' := 14) (lv' := [some (vR 4)]) (st' := [vR 4]) rfl ?_
    refine lnC_call rfl (s_14 (d := d + 1) hI hL hD hT) (fun f hf r hr => ?_) (fun q s hq hs => ?_)
    · exact Or.inr ⟨⟨3, by decide, dcN_i.mp h⟩, by rw [sel_f n2, sel_t (dcN_i.mp h), hf]; exact hr⟩
    · refine g_pure 2 (i' := 51) (lv' := [some (vR 4)]) (st' := [vI 1]) rfl ?_
      exact g_bret rfl g_nar1 (Or.inr ⟨⟨3, by decide, dcN_i.mp h⟩, by rw [sel_f n2, sel_t (dcN_i.mp h), hq]; exact ⟨s, hs, rfl⟩⟩)
  have n3 := dcN_n.mp n3
  refine g_pure 3 (i' := 19) (lv' := [some (vR 4)]) (st' := [vS 4, vR 1]) rfl ?_
  refine g_cV1 rfl (args := [vR 1, vS 4]) (rest := []) rfl rfl rfl (s_74 (d := d + 5) (by decide) hT) ?_
  refine g_if1 (i' := 24) (P := ¬ dcN (isW T tn tk (am_SL 4)) = true) rfl rfl g_eqB (fun n4 => ?_) (fun h => ?_)
  rotate_left
  · have h := Classical.not_not.mp h
    refine g_pure 1 (i' := 22) (lv' := [some (vR 4)]) (st' := [vR 4]) rfl ?_
    refine lnC_call rfl (s_16 (d := d + 1) hI hL hD hT) (fun f hf r hr => ?_) (fun q s hq hs => ?_)
    · exact Or.inr ⟨⟨4, by decide, dcN_i.mp h⟩, by rw [sel_f n2, sel_f n3, sel_t (dcN_i.mp h), hf]; exact hr⟩
    · refine g_pure 2 (i' := 51) (lv' := [some (vR 4)]) (st' := [vI 1]) rfl ?_
      exact g_bret rfl g_nar1 (Or.inr ⟨⟨4, by decide, dcN_i.mp h⟩, by rw [sel_f n2, sel_f n3, sel_t (dcN_i.mp h), hq]; exact ⟨s, hs, rfl⟩⟩)
  have n4 := dcN_n.mp n4
  refine g_pure 3 (i' := 27) (lv' := [some (vR 4)]) (st' := [vS 5, vR 1]) rfl ?_
  refine g_cV1 rfl (args := [vR 1, vS 5]) (rest := []) rfl rfl rfl (s_74 (d := d + 5) (by decide) hT) ?_
  refine g_if1 (i' := 32) (P := ¬ dcN (isW T tn tk (am_SL 5)) = true) rfl rfl g_eqB (fun n5 => ?_) (fun h => ?_)
  rotate_left
  · have h := Classical.not_not.mp h
    refine g_pure 1 (i' := 30) (lv' := [some (vR 4)]) (st' := [vR 4]) rfl ?_
    refine lnC_call rfl (s_17 (d := d + 1) hI hL hD hT) (fun f hf r hr => ?_) (fun q s hq hs => ?_)
    · exact Or.inr ⟨⟨5, by decide, dcN_i.mp h⟩, by rw [sel_f n2, sel_f n3, sel_f n4, sel_t (dcN_i.mp h), hf]; exact hr⟩
    · refine g_pure 2 (i' := 51) (lv' := [some (vR 4)]) (st' := [vI 1]) rfl ?_
      exact g_bret rfl g_nar1 (Or.inr ⟨⟨5, by decide, dcN_i.mp h⟩, by rw [sel_f n2, sel_f n3, sel_f n4, sel_t (dcN_i.mp h), hq]; exact ⟨s, hs, rfl⟩⟩)
  have n5 := dcN_n.mp n5
  refine g_pure 3 (i' := 35) (lv' := [some (vR 4)]) (st' := [vS 6, vR 1]) rfl ?_
  refine g_cV1 rfl (args := [vR 1, vS 6]) (rest := []) rfl rfl rfl (s_74 (d := d + 5) (by decide) hT) ?_
  refine g_if1 (i' := 40) (P := ¬ dcN (isW T tn tk (am_SL 6)) = true) rfl rfl g_eqB (fun n6 => ?_) (fun h => ?_)
  rotate_left
  · have h := Classical.not_not.mp h
    refine g_pure 1 (i' := 38) (lv' := [some (vR 4)]) (st' := [vR 4]) rfl ?_
    refine lnC_call rfl (s_19 (d := d + 1) hI hL hD hT) (fun f hf r hr => ?_) (fun q s hq hs => ?_)
    · exact Or.inr ⟨⟨6, by decide, dcN_i.mp h⟩, by rw [sel_f n2, sel_f n3, sel_f n4, sel_f n5, sel_t (dcN_i.mp h), hf]; exact hr⟩
    · refine g_pure 2 (i' := 51) (lv' := [some (vR 4)]) (st' := [vI 1]) rfl ?_
      exact g_bret rfl g_nar1 (Or.inr ⟨⟨6, by decide, dcN_i.mp h⟩, by rw [sel_f n2, sel_f n3, sel_f n4, sel_f n5, sel_t (dcN_i.mp h), hq]; exact ⟨s, hs, rfl⟩⟩)
  have n6 := dcN_n.mp n6
  refine g_pure 3 (i' := 43) (lv' := [some (vR 4)]) (st' := [vS 10, vR 1]) rfl ?_
  refine g_cV1 rfl (args := [vR 1, vS 10]) (rest := []) rfl rfl rfl (s_74 (d := d + 5) (by decide) hT) ?_
  refine g_if1 (i' := 48) (P := ¬ dcN (isW T tn tk (am_SL 10)) = true) rfl rfl g_eqB (fun n10 => ?_) (fun h => ?_)
  rotate_left
  · have h := Classical.not_not.mp h
    refine g_pure 1 (i' := 46) (lv' := [some (vR 4)]) (st' := [vR 4]) rfl ?_
    refine lnC_call rfl (s_20 (d := d + 1) hI hL hD hT) (fun f hf r hr => ?_) (fun q s hq hs => ?_)
    · exact Or.inr ⟨⟨10, by decide, dcN_i.mp h⟩, by rw [sel_f n2, sel_f n3, sel_f n4, sel_f n5, sel_f n6, sel_t (dcN_i.mp h), hf]; exact hr⟩
    · refine g_pure 2 (i' := 51) (lv' := [some (vR 4)]) (st' := [vI 1]) rfl ?_
      exact g_bret rfl g_nar1 (Or.inr ⟨⟨10, by decide, dcN_i.mp h⟩, by rw [sel_f n2, sel_f n3, sel_f n4, sel_f n5, sel_f n6, sel_t (dcN_i.mp h), hq]; exact ⟨s, hs, rfl⟩⟩)
  have n10 := dcN_n.mp n10
  refine g_pure 1 (i' := 49) (lv' := [some (vR 4)]) (st' := [vI 0]) rfl ?_
  refine g_bret rfl g_nar0 (Or.inl ⟨fun ⟨j, hj, hw⟩ => ?_, by rw [sel_f n2, sel_f n3, sel_f n4, sel_f n5, sel_f n6, sel_f n10], rfl⟩)
  simp only [List.mem_cons, List.not_mem_nil, or_false] at hj
  rcases hj with rfl | rfl | rfl | rfl | rfl | rfl
  · exact n2 hw
  · exact n3 hw
  · exact n4 hw
  · exact n5 hw
  · exact n6 hw
  · exact n10 hw
def isT21 (T : Nat → Int32) (n k : Nat) : Prop := ∃ j, j ∈ [12, 13, 14, 15] ∧ isW T n k (am_SL j)
theorem s_21 {X : Nat × (Nat → Int32)} {d : Nat} {p : Nat → Nat} {sg : Mg} {B : Nat} {S : Nat → Int32} (hI : Inv B S) (hL : cwL 350 sg S) (hD : cwD 300 sg S) {T : Nat → Int32} {tn tk : Nat} (hT : CT T tn tk sg) : gF X (d + 7) 21 [vR 4] p sg (fun r => (¬ isT21 T tn tk ∧ prRest T tn tk S = .inl (spK T tn tk) ∧ r = gRv p sg 0) ∨ isT21 T tn tk ∧ lnV (prRest T tn tk S) T tn sg p r) := by
  refine g_in (cd := k_21) (nL := 1) (rc := 2) rfl (g_A (a := 4) (kd := 0) (n := 1) rfl (by decide)) (g_c1 rfl) ?_
  show gW X (d + 6) k_21 0 [some (vR 4)] [] p sg _
  unfold prRest
  refine g_pure 3 (i' := 3) (lv' := [some (vR 4)]) (st' := [vS 12, vR 1]) rfl ?_
  refine g_cV1 rfl (args := [vR 1, vS 12]) (rest := []) rfl rfl rfl (s_74 (d := d + 5) (by decide) hT) ?_
  refine g_if1 (i' := 8) (P := ¬ dcN (isW T tn tk (am_SL 12)) = true) rfl rfl g_eqB (fun n12 => ?_) (fun h => ?_)
  rotate_left
  · have h := Classical.not_not.mp h
    refine g_pure 1 (i' := 6) (lv' := [some (vR 4)]) (st' := [vR 4]) rfl ?_
    refine lnC_call rfl (s_22 (d := d + 1) hI hL hD hT) (fun f hf r hr => ?_) (fun q s hq hs => ?_)
    · exact Or.inr ⟨⟨12, by decide, dcN_i.mp h⟩, by rw [sel_t (dcN_i.mp h), hf]; exact hr⟩
    · refine g_pure 2 (i' := 56) (lv' := [some (vR 4)]) (st' := [vI 1]) rfl ?_
      exact g_bret rfl g_nar1 (Or.inr ⟨⟨12, by decide, dcN_i.mp h⟩, by rw [sel_t (dcN_i.mp h), hq]; exact ⟨s, hs, rfl⟩⟩)
  have n12 := dcN_n.mp n12
  refine g_pure 3 (i' := 11) (lv' := [some (vR 4)]) (st' := [vS 13, vR 1]) rfl ?_
  refine g_cV1 rfl (args := [vR 1, vS 13]) (rest := []) rfl rfl rfl (s_74 (d := d + 5) (by decide) hT) ?_
  refine g_if1 (i' := 27) (P := ¬ dcN (isW T tn tk (am_SL 13)) = true) rfl rfl g_eqB (fun n13 => ?_) (fun h => ?_)
  rotate_left
  · have h := Classical.not_not.mp h
    refine b_21_13 (d := d + 2) hI hL hD hT (FRc.rf sg) (fun s1 e1 h1 s3 e3 s5 e5 cT cF cL cD => ?_) (fun s1 e1 h1 s3 e3 cT cF cL cD => ?_)
    · refine Or.inr ⟨⟨13, by decide, dcN_i.mp h⟩, ?_⟩
      unfold prFea
      rw [sel_f n12, sel_t (dcN_i.mp h), sel_t h1]
      exact ⟨s5, ⟨cF, cT, cL, cD⟩, rfl⟩
    · refine Or.inr ⟨⟨13, by decide, dcN_i.mp h⟩, ?_⟩
      unfold prFea
      rw [sel_f n12, sel_t (dcN_i.mp h), sel_f h1]
      exact LF.of cF e3
  have n13 := dcN_n.mp n13
  refine g_pure 3 (i' := 30) (lv' := [some (vR 4)]) (st' := [vS 14, vR 1]) rfl ?_
  refine g_cV1 rfl (args := [vR 1, vS 14]) (rest := []) rfl rfl rfl (s_74 (d := d + 5) (by decide) hT) ?_
  refine g_if1 (i' := 45) (P := ¬ dcN (isW T tn tk (am_SL 14)) = true) rfl rfl g_eqB (fun n14 => ?_) (fun h => ?_)
  rotate_left
  · have h := Classical.not_not.mp h
    refine b_21_32 (d := d + 2) hI hL hD hT (FRc.rf sg) (fun s1 e1 h1 s3 e3 s5 e5 cT cF cL cD => ?_) (fun s1 e1 h1 s3 e3 cT cF cL cD => ?_)
    · refine Or.inr ⟨⟨14, by decide, dcN_i.mp h⟩, ?_⟩
      unfold prCha
      rw [sel_f n12, sel_f n13, sel_t (dcN_i.mp h), sel_t h1]
      exact ⟨s5, ⟨cF, cT, cL, cD⟩, rfl⟩
    · refine Or.inr ⟨⟨14, by decide, dcN_i.mp h⟩, ?_⟩
      unfold prCha
      rw [sel_f n12, sel_f n13, sel_t (dcN_i.mp h), sel_f h1]
      exact LF.of cF e3
  have n14 := dcN_n.mp n14
  refine g_pure 3 (i' := 48) (lv' := [some (vR 4)]) (st' := [vS 15, vR 1]) rfl ?_
  refine g_cV1 rfl (args := [vR 1, vS 15]) (rest := []) rfl rfl rfl (s_74 (d := d + 5) (by decide) hT) ?_
  refine g_if1 (i' := 53) (P := ¬ dcN (isW T tn tk (am_SL 15)) = true) rfl rfl g_eqB (fun n15 => ?_) (fun h => ?_)
  rotate_left
  · have h := Classical.not_not.mp h
    refine g_pure 1 (i' := 51) (lv' := [some (vR 4)]) (st' := [vR 4]) rfl ?_
    refine lnC_call rfl (s_23 (d := d + 1) hI hL hD hT) (fun f hf r hr => ?_) (fun q s hq hs => ?_)
    · exact Or.inr ⟨⟨15, by decide, dcN_i.mp h⟩, by rw [sel_f n12, sel_f n13, sel_f n14, sel_t (dcN_i.mp h), hf]; exact hr⟩
    · refine g_pure 2 (i' := 56) (lv' := [some (vR 4)]) (st' := [vI 1]) rfl ?_
      exact g_bret rfl g_nar1 (Or.inr ⟨⟨15, by decide, dcN_i.mp h⟩, by rw [sel_f n12, sel_f n13, sel_f n14, sel_t (dcN_i.mp h), hq]; exact ⟨s, hs, rfl⟩⟩)
  have n15 := dcN_n.mp n15
  refine g_pure 1 (i' := 54) (lv' := [some (vR 4)]) (st' := [vI 0]) rfl ?_
  refine g_bret rfl g_nar0 (Or.inl ⟨fun ⟨j, hj, hw⟩ => ?_, by rw [sel_f n12, sel_f n13, sel_f n14, sel_f n15], rfl⟩)
  simp only [List.mem_cons, List.not_mem_nil, or_false] at hj
  rcases hj with rfl | rfl | rfl | rfl
  · exact n12 hw
  · exact n13 hw
  · exact n14 hw
  · exact n15 hw
