/-! LAW: the call, in the reference (made by wip/whole/gen89zzr.py) -/
theorem b_228_30 {X : Nat × (Nat → Int32)} {d : Nat} {p : Nat → Nat} {sg : Mg} {Q : am_R → Prop} {z1 : Option AV} {i : Nat} (u_i : i ≤ 849)
    (o1 : (849 ≤ i) → gW X (d + 29) k_228 47 [some (vR 800), z1, some (vI (nI i))] [] p sg Q)
    (o2 : (¬ (849 ≤ i)) → ∀ s2 : Mg, s2 = mu sg 801 (709 + i) (sg 801 (1558 + i)) → gW X (d + 29) k_228 30 [some (vR 800), z1, some (vI (nI (i + 1)))] [] p s2 Q) :
    gW X (d + 29) k_228 30 [some (vR 800), z1, some (vI (nI i))] [] p sg Q := by
  refine g_pure 2 (i' := 32) (lv' := [some (vR 800), z1, some (vI (nI i))]) (st' := [vI 849, vI (nI i)]) rfl ?_
  refine g_if2 (i' := 47) (P := 849 ≤ i) rfl rfl (g_geN (show nI i = nI i from (rfl : nI i = nI i)) (show 849 = nI 849 from (show (849 : Int32) = nI 849 from rfl)) (by omega) (by omega)) (fun h1 => ?_) (fun h1 => ?_)
  · exact o1 h1
  · refine g_pure 10 (i' := 43) (lv' := [some (vR 800), z1, some (vI (nI i))]) (st' := [vI (1558 + nI i), vR 801, vI (709 + nI i), vR 801]) rfl ?_
    refine gW_eq (lv' := [some (vR 800), z1, some (vI (nI i))]) (st' := [vI (nI (1558 + i)), vR 801, vI (nI (709 + i)), vR 801]) rfl (by rw [(show (1558 + nI i) = nI (1558 + i) from ((g_add (show (1558 : Int32) = nI 1558 from rfl) (rfl : nI i = nI i))).trans (congrArg nI (by omega))), (show (709 + nI i) = nI (709 + i) from ((g_add (show (709 : Int32) = nI 709 from rfl) (rfl : nI i = nI i))).trans (congrArg nI (by omega)))]) rfl ?_
    refine g_ald rfl (g_A (a := 801) (kd := 1) (n := 2407) rfl (by decide)) (by decide) (show nI (1558 + i) = nI (1558 + i) from (rfl : nI (1558 + i) = nI (1558 + i))) (by omega) (show _ = sg 801 (1558 + i) from rfl) ?_
    refine g_ast rfl (g_A (a := 801) (kd := 1) (n := 2407) rfl (by decide)) (by decide) (show nI (709 + i) = nI (709 + i) from (rfl : nI (709 + i) = nI (709 + i))) (by omega) ?_
    refine g_setv (fun s2 es2 => ?_)
    refine g_pure 2 (i' := 30) (lv' := [some (vR 800), z1, some (vI (nI i + 1))]) (st' := []) rfl ?_
    refine gW_eq (lv' := [some (vR 800), z1, some (vI (nI (i + 1)))]) (st' := []) (by rw [(show (nI i + 1) = nI (i + 1) from ((g_add (rfl : nI i = nI i) (show (1 : Int32) = nI 1 from rfl))).trans (congrArg nI (by omega)))]) rfl rfl ?_
    exact o2 h1 s2 es2

theorem s_227b {X : Nat × (Nat → Int32)} {d : Nat} {p : Nat → Nat} {sg : Mg} : gF X (d + 1) 227 [vR 800, vI 1, vI 1] p sg (fun r => r = gRv p (mu sg 800 0 1) 1) := by
  refine g_in (cd := k_227) (nL := 3) (rc := 13) rfl (g_A (a := 800) (kd := 0) (n := 12) rfl (by decide)) (g_c1 rfl) ?_
  show gW X d k_227 0 [some (vR 800), some (vI 1), some (vI 1)] [] p sg _
  refine g_pure 1 (i' := 1) (lv' := [some (vR 800), some (vI 1), some (vI 1)]) (st' := [vI 1]) rfl ?_
  refine g_if1 (i' := 5) (P := False) rfl rfl cd_eq1 False.elim (fun _ => ?_)
  refine g_pure 2 (i' := 4) (lv' := [some (vR 800), some (vI 1), some (vI 1)]) (st' := [vI 1, vR 800]) rfl ?_
  refine g_putI rfl (g_A (a := 800) (kd := 0) (n := 12) rfl (by decide)) ?_
  refine g_pure 1 (i' := 6) (lv' := [some (vR 800), some (vI 1), some (vI 1)]) (st' := [vI 1]) rfl ?_
  exact g_bret rfl g_nar1 rfl
theorem s_227a {X : Nat × (Nat → Int32)} {d : Nat} {p : Nat → Nat} {sg : Mg} : gF X (d + 1) 227 [vR 800, vI 0, vI 1] p sg (fun r => r = gRv p sg 0) := by
  refine g_in (cd := k_227) (nL := 3) (rc := 13) rfl (g_A (a := 800) (kd := 0) (n := 12) rfl (by decide)) (g_c1 rfl) ?_
  show gW X d k_227 0 [some (vR 800), some (vI 0), some (vI 1)] [] p sg _
  refine g_pure 1 (i' := 1) (lv' := [some (vR 800), some (vI 0), some (vI 1)]) (st' := [vI 0]) rfl ?_
  refine g_if1 (i' := 5) (P := True) rfl rfl cd_eq0 (fun _ => ?_) (fun h => absurd trivial h)
  refine g_pure 1 (i' := 6) (lv' := [some (vR 800), some (vI 0), some (vI 1)]) (st' := [vI 0]) rfl ?_
  exact g_bret rfl g_nar0 rfl
theorem m_law {X : Nat × (Nat → Int32)} {d : Nat} {p : Nat → Nat} {sg : Mg} {B : Nat} {A : AS} (hI : RI B A) (hR : RM A sg) : gF X (d + 30) 228 [vR 800] p sg (fun r => ∃ S', LSP A S' ∧ mR (lawA A S') (lawA A S') (lawR A) p sg r) := by
  have ht := hI.2.2.2.2.2.2.1
  obtain ⟨r1, r2, r3, r4, r5, r6, r7, r8, r9⟩ := id hR
  refine g_in (cd := k_228) (nL := 3) (rc := 13) rfl (g_A (a := 800) (kd := 0) (n := 12) rfl (by decide)) (g_c1 rfl) ?_
  show gW X (d + 29) k_228 0 [some (vR 800), none, none] [] p sg _
  refine g_pure 2 (i' := 2) (lv' := [some (vR 800), none, none]) (st' := [vI 0, vR 800]) rfl ?_
  refine g_calV rfl (args := [vR 800, vI 0]) (rest := []) rfl rfl (Nat.zero_le _) (s_186l (d := d) (T := A.T) (tl := A.tl) ht r6 r7) (fun r hr => ?_)
  cases hP : prLaw A.T A.tl with
  | inl f =>
    rw [hP] at hr
    obtain ⟨s, ⟨hU, h11⟩, rfl⟩ := hr
    have hA : ∀ S', lawA A S' = (S', A.n, acD A S', A.f, A.im, A.T, 0, nI f) := fun S' => by unfold lawA; rw [hP]
    have hcR : lawR A = (1, 0) := by unfold lawR; rw [hP]
    have m1 : ¬ (0 : Int32) ≤ -1 := by decide
    refine gK_v ?_
    refine g_pure 3 (i' := 6) (lv' := [some (vR 800), some (vI (-1)), none]) (st' := [vI (-1), vR 800]) rfl ?_
    refine g_if1 (i' := 10) (P := False) rfl rfl ⟨fun h => absurd (show (0 : Int32) ≤ -1 from h) m1, False.elim⟩ False.elim (fun _ => ?_)
    refine g_pure 1 (i' := 8) (lv' := [some (vR 800), some (vI (-1)), none]) (st' := [vR 800, vR 800]) rfl ?_
    refine g_getI rfl (g_A (a := 800) (kd := 0) (n := 12) rfl (by decide)) (show _ = nI f from h11) ?_
    refine g_pure 1 (i' := 11) (lv' := [some (vR 800), some (vI (-1)), none]) (st' := [vI (nI f), vR 800]) rfl ?_
    refine g_putI rfl (g_A (a := 800) (kd := 0) (n := 12) rfl (by decide)) ?_
    refine g_pure 2 (i' := 14) (lv' := [some (vR 800), some (vI (-1)), none]) (st' := [vI (-1), vR 800]) rfl ?_
    refine g_if1 (i' := 17) (P := False) rfl rfl ⟨fun h => absurd (show (0 : Int32) ≤ -1 from h) m1, False.elim⟩ False.elim (fun _ => ?_)
    refine g_pure 3 (i' := 19) (lv' := [some (vR 800), some (vI (-1)), none]) (st' := [vI 1, vI 1, vR 800]) rfl ?_
    refine g_cV1 rfl (args := [vR 800, vI 1, vI 1]) (rest := []) rfl rfl rfl (s_227b (d := d + 28)) ?_
    refine g_if1 (i' := 23) (P := False) rfl rfl cd_eq1 False.elim (fun _ => ?_)
    refine g_pure 1 (i' := 22) (lv' := [some (vR 800), some (vI (-1)), none]) (st' := [vI 0]) rfl ?_
    have e801 : mu (mu s 800 13 (nI f)) 800 0 1 801 = s 801 := by rw [mu_ne (by decide), mu_ne (by decide)]
    have ec : ∀ c, c ≠ 800 → mu (mu s 800 13 (nI f)) 800 0 1 c = s c := fun c hc => by rw [mu_ne hc, mu_ne hc]
    have ek : ∀ k, k ≠ 0 → k ≠ 13 → mu (mu s 800 13 (nI f)) 800 0 1 800 k = s 800 k := fun k h0 h3 => by rw [mu_idx h0, mu_idx h3]
    have e0 : mu (mu s 800 13 (nI f)) 800 0 1 800 0 = nI 1 := mu_self
    have e13 : mu (mu s 800 13 (nI f)) 800 0 1 800 13 = nI f := by rw [mu_idx (by decide), mu_self]
    generalize mu (mu s 800 13 (nI f)) 800 0 1 = s9 at e801 ec ek e0 e13
    refine g_iret rfl ⟨s 801, ?_, ?_⟩
    · unfold LSP
      rw [hP]
      exact fun i hi => (hU.2.2.2.2 i hi).trans (congrFun r1 i)
    · refine mR_x (c := 0) ?_ (fun c hc => ?_) e0 (by rw [hcR])
      · rw [hA]
        refine ⟨e801, ?_, fun i j hi hj => ?_, ?_, fun hf j hj => ?_, ?_, fun i hi => absurd hi (Nat.not_lt_zero _), e13, ?_⟩
        · rw [ek 6 (by decide) (by decide), hU.2.1 6 (by decide) (by decide) (by decide) (by decide) (by decide) (by decide) (by decide)]; exact r2
        · rw [ec 804 (by decide), hU.1 804 (by decide) (by decide)]; exact (r3 i j hi hj).trans (if_pos (show j < 1558 by omega)).symm
        · rw [ek 5 (by decide) (by decide), hU.2.1 5 (by decide) (by decide) (by decide) (by decide) (by decide) (by decide) (by decide)]; exact r4
        · rw [ec 802 (by decide), hU.1 802 (by decide) (by decide)]; exact r5 hf j hj
        · rw [ek 8 (by decide) (by decide)]; exact hU.2.2.2.1
        · rw [ec 815 (by decide), hU.1 815 (by decide) (by decide)]; exact r9
      · rw [ec c (by omega), hU.1 c (by omega) (by omega)]
  | inr q =>
    rw [hP] at hr
    obtain ⟨s, ⟨hU, hC, hL⟩, rfl⟩ := hr
    obtain ⟨o1, o2, o3⟩ := prLaw_ok hP
    have hA : ∀ S', lawA A S' = (S', 0, A.ac, A.f, A.im, A.T, 0, -1) := fun S' => by unfold lawA; rw [hP]
    have hcR : lawR A = (0, nI q.2.2.length) := by unfold lawR; rw [hP]
    generalize hm : q.2.2.length = m at o2 hcR
    refine gK_v ?_
    refine g_pure 3 (i' := 6) (lv' := [some (vR 800), some (vI (nI m)), none]) (st' := [vI (nI m), vR 800]) rfl ?_
    refine g_if1 (i' := 10) (P := 0 ≤ m) rfl rfl (g_geN rfl rfl (by omega) (by decide)) (fun _ => ?_) (fun h => absurd (Nat.zero_le _) h)
    refine g_pure 1 (i' := 11) (lv' := [some (vR 800), some (vI (nI m)), none]) (st' := [vI (-1), vR 800]) rfl ?_
    refine g_putI rfl (g_A (a := 800) (kd := 0) (n := 12) rfl (by decide)) ?_
    refine g_pure 2 (i' := 14) (lv' := [some (vR 800), some (vI (nI m)), none]) (st' := [vI (nI m), vR 800]) rfl ?_
    refine g_if1 (i' := 17) (P := 0 ≤ m) rfl rfl (g_geN rfl rfl (by omega) (by decide)) (fun _ => ?_) (fun h => absurd (Nat.zero_le _) h)
    refine g_pure 2 (i' := 19) (lv' := [some (vR 800), some (vI (nI m)), none]) (st' := [vI 1, vI 0, vR 800]) rfl ?_
    refine g_cV1 rfl (args := [vR 800, vI 0, vI 1]) (rest := []) rfl rfl rfl (s_227a (d := d + 28)) ?_
    refine g_if1 (i' := 23) (P := True) rfl rfl cd_eq0 (fun _ => ?_) (fun h => absurd trivial h)
    refine g_pure 4 (i' := 27) (lv' := [some (vR 800), some (vI (nI m)), none]) (st' := [vI (nI m), vI 1558, vR 801]) rfl ?_
    refine g_ast rfl (g_A (a := 801) (kd := 1) (n := 2407) rfl (by decide)) (by decide) (show (1558 : Int32) = nI 1558 from rfl) (by decide) ?_
    have ec : ∀ c, c ≠ 800 → c ≠ 801 → mu (mu s 800 13 (-1)) 801 1558 (nI m) c = s c := fun c h0 h1 => by rw [mu_ne h1, mu_ne h0]
    have ek : ∀ k, k ≠ 13 → mu (mu s 800 13 (-1)) 801 1558 (nI m) 800 k = s 800 k := fun k hk => by rw [mu_ne (by decide), mu_idx hk]
    have e13 : mu (mu s 800 13 (-1)) 801 1558 (nI m) 800 13 = -1 := by rw [mu_ne (by decide), mu_self]
    have ev : ∀ i, i ≠ 1558 → mu (mu s 800 13 (-1)) 801 1558 (nI m) 801 i = s 801 i := fun i hi => by rw [mu_idx hi, mu_ne (by decide)]
    have e58 : mu (mu s 800 13 (-1)) 801 1558 (nI m) 801 1558 = nI m := mu_self
    generalize mu (mu s 800 13 (-1)) 801 1558 (nI m) = s0 at ec ek e13 ev e58
    refine g_pure 2 (i' := 30) (lv' := [some (vR 800), some (vI (nI m)), some (vI (nI 0))]) (st' := []) rfl ?_
    have key := g_upI (P := fun i => ∀ s', (∀ c, c ≠ 801 → s' c = s0 c) → (∀ j, s' 801 j = if 709 ≤ j ∧ j < 709 + i then s0 801 (j + 849) else s0 801 j) → gW X (d + 29) k_228 30 [some (vR 800), some (vI (nI m)), some (vI (nI i))] [] p s' (fun r => ∃ S', LSP A S' ∧ mR (lawA A S') (lawA A S') (lawR A) p sg r)) (I := fun _ => True) (n := 849) (a := 0) (by omega) trivial ?_ ?_
    · exact key s0 (fun _ _ => rfl) (fun j => by rw [if_neg (by omega)])
    · intro i _ hi _ ih s' h1 h2
      refine b_228_30 (d := d) (by omega) (fun h => by omega) (fun _ s2 e2 => ih trivial s2 (fun c hc => by rw [e2, mu_ne hc]; exact h1 c hc) (fun j => ?_))
      have eS : s' 801 (1558 + i) = s0 801 (1558 + i) := by rw [h2, if_neg (by omega)]
      by_cases e : j = 709 + i
      · subst e
        rw [e2, mu_self, eS, if_pos (by omega), show 709 + i + 849 = 1558 + i by omega]
      · rw [e2, mu_idx e, h2 j]
        by_cases c : 709 ≤ j ∧ j < 709 + i
        · rw [if_pos c, if_pos (by omega)]
        · rw [if_neg c, if_neg (by omega)]
    intro _ s' h1 h2
    refine b_228_30 (d := d) (by omega) (fun _ => ?_) (fun h => by omega)
    refine g_pure 4 (i' := 51) (lv' := [some (vR 800), some (vI (nI m)), some (vI (nI 849))]) (st' := [vI 1, vI 7, vR 801]) rfl ?_
    refine g_ast rfl (g_A (a := 801) (kd := 1) (n := 2407) rfl (by decide)) (by decide) (show (7 : Int32) = nI 7 from rfl) (by decide) ?_
    refine g_pure 2 (i' := 54) (lv' := [some (vR 800), some (vI (nI m)), some (vI (nI 849))]) (st' := [vI 0, vR 800]) rfl ?_
    refine g_putI rfl (g_A (a := 800) (kd := 0) (n := 12) rfl (by decide)) ?_
    refine g_pure 1 (i' := 56) (lv' := [some (vR 800), some (vI (nI m)), some (vI (nI 849))]) (st' := [vI (nI m)]) rfl ?_
    have fv : ∀ j, j ≠ 7 → mu (mu s' 801 7 1) 800 6 0 801 j = if 709 ≤ j ∧ j < 1558 then s0 801 (j + 849) else s0 801 j := fun j hj => by rw [mu_ne (by decide), mu_idx hj, h2 j]
    have f7 : mu (mu s' 801 7 1) 800 6 0 801 7 = 1 := by rw [mu_ne (by decide), mu_self]
    have fc : ∀ c, c ≠ 800 → c ≠ 801 → mu (mu s' 801 7 1) 800 6 0 c = s c := fun c h3 h4 => by rw [mu_ne h3, mu_ne h4, h1 c h4]; exact ec c h3 h4
    have fk : ∀ k, k ≠ 6 → k ≠ 13 → mu (mu s' 801 7 1) 800 6 0 800 k = s 800 k := fun k h3 h4 => by rw [mu_idx h3, mu_ne (by decide), h1 800 (by decide)]; exact ek k h4
    have f6 : mu (mu s' 801 7 1) 800 6 0 800 6 = nI 0 := mu_self
    have f13 : mu (mu s' 801 7 1) 800 6 0 800 13 = -1 := by rw [mu_idx (by decide), mu_ne (by decide), h1 800 (by decide)]; exact e13
    generalize mu (mu s' 801 7 1) 800 6 0 = s9 at fv f7 fc fk f6 f13
    refine g_iret rfl ⟨s9 801, ?_, ?_⟩
    · unfold LSP
      rw [hP]
      have hv : ∀ t, 710 ≤ t → t < 1558 → s9 801 t = s 801 (t + 849) := fun t t1 t2 => by rw [fv t (by omega), if_pos (by omega), ev _ (by omega)]
      refine ⟨fun i hi h7 => ?_, f7, ?_, fun i hi => ?_, fun i hi => ?_⟩
      · rw [fv i h7, if_neg (by omega), ev i (by omega), hU.2.2.2.2 i (by omega), r1]
      · rw [fv 709 (by decide), if_pos (by decide), hm]; exact e58
      · have g := hL i hi
        rw [hv _ (by omega) (by omega), hv _ (by omega) (by omega), hv _ (by omega) (by omega), hv _ (by omega) (by omega), show 710 + 4 * i + 849 = 1559 + 4 * i by omega, show 710 + 4 * i + 1 + 849 = 1559 + 4 * i + 1 by omega, show 710 + 4 * i + 2 + 849 = 1559 + 4 * i + 2 by omega, show 710 + 4 * i + 3 + 849 = 1559 + 4 * i + 3 by omega]
        exact g
      · have g := hC.2 i hi
        rw [fv _ (by omega), if_pos (by omega), ev _ (by omega), fv _ (by omega), if_pos (by omega), ev _ (by omega), show 758 + 2 * i + 849 = 1607 + 2 * i by omega, show 758 + 2 * i + 1 + 849 = 1608 + 2 * i by omega]
        exact g
    · refine mR_v ?_ (fun c hc => ?_) (by rw [fk 0 (by decide) (by decide)]; exact hU.2.2.1) hcR
      · rw [hA]
        refine ⟨rfl, f6, fun i j hi => absurd hi (Nat.not_lt_zero _), ?_, fun hf j hj => ?_, ?_, fun i hi => absurd hi (Nat.not_lt_zero _), f13, ?_⟩
        · rw [fk 5 (by decide) (by decide), hU.2.1 5 (by decide) (by decide) (by decide) (by decide) (by decide) (by decide) (by decide)]; exact r4
        · rw [fc 802 (by decide) (by decide), hU.1 802 (by decide) (by decide)]; exact r5 hf j hj
        · rw [fk 8 (by decide) (by decide)]; exact hU.2.2.2.1
        · rw [fc 815 (by decide) (by decide), hU.1 815 (by decide) (by decide)]; exact r9
      · rw [fc c (by omega) (by omega), hU.1 c (by omega) (by omega)]
