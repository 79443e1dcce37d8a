/-! TABLES: orders, and the call of the class (made by wip/whole/gen89zh.py) -/
theorem s_2 {X : Nat × (Nat → Int32)} {d : Nat} {p : Nat → Nat} {sg : Mg} {S T : Nat → Int32} {tl D : Nat} (hc : clQ S T tl sg) (eD : D = sn S 9) (h0 : 1 ≤ D) (h9 : D ≤ 9) : gF X (d + 14) 2 [vR 16, vI (nI D)] p sg (fun r => ∃ s, (∀ c, c ≠ 18 → c ≠ 19 → c ≠ 20 → s c = sg c) ∧ r = gRv p s (nI (ordN T D (tl / 3)))) := by
  have hT : ∀ i, i < tl → okx (T i) D := fun i hi => by rw [eD]; exact hc.2.2.2.2 i hi
  refine g_in (cd := k_2) (nL := 6) (rc := 1) rfl (g_A (a := 16) (kd := 0) (n := 0) rfl (by decide)) (g_c1 rfl) (b_2_0 (by omega) (by omega) ?_)
  refine g_calV rfl (args := [vR 16, vI (nI D)]) (rest := []) rfl rfl (Nat.zero_le _) (s_3 (d := d + 9) hc eD h0 h9) (fun q hq => ?_)
  obtain ⟨s1, g, f, res, t1, t2, t3, t4, rfl⟩ := hq
  refine gK_v ?_
  refine g_if1 (i' := 14) (P := ¬ res = true) rfl rfl g_eqB (fun hr => ?_) (fun hr => ?_)
  · refine g_pure 1 (i' := 15) (lv' := [some (vR 16), some (vI (nI D)), none, none, none, none]) (st' := [vI 0]) rfl ?_
    refine g_iret rfl ⟨s1, fun c c1 c2 _ => t1 c c1 c2, ?_⟩
    rw [ordN_no h0 hc.2.2.1 hT (fun w hw _ hck => hr ((t4 w hw).mpr hck).2)]
    rfl
  have hr := Classical.not_not.mp hr
  have t5 : ∀ w : Nat → Nat, (∀ x, x < D → w x < D) → (gSol g f D w ↔ ckP T D (tl / 3) w) := fun w hw => ⟨fun h => (t4 w hw).mp ⟨h, hr⟩, fun h => ((t4 w hw).mpr h).1⟩
  refine g_pure 2 (i' := 12) (lv' := [some (vR 16), some (vI (nI D)), none, none, none, none]) (st' := [vI (nI D), vR 16]) rfl ?_
  refine g_calV rfl (args := [vR 16, vI (nI D)]) (rest := []) rfl rfl (Nat.zero_le _) (s_5 (d := d + 10) t2 t3 h9) (fun q hq => ?_)
  obtain ⟨s2, res2, u1, u2, u3, rfl⟩ := hq
  refine gK_v ?_
  have hs2 : ∀ c, c ≠ 18 → c ≠ 19 → c ≠ 20 → s2 c = sg c := fun c c1 c2 c3 => (u1 c c3).trans (t1 c c1 c2)
  refine g_if1 (i' := 16) (P := res2 = true) rfl rfl g_neB (fun hr2 => ?_) (fun hr2 => ?_)
  · have hs : spOK g f D := u3.mp hr2
    have hP := u2 hr2
    have hg0 := t2 0 h0
    have k18 : s2 18 0 = nI (g 0) := by rw [u1 18 (by decide)]; exact t3.1 0 h0
    have k19 : s2 19 0 = nI (f 0) := by rw [u1 19 (by decide)]; exact t3.2 0 h0
    have htl := tr_lt (s := pgB g f D (g 0)) (b := D - f 0) (e := D)
    refine g_pure 5 (i' := 21) (lv' := [some (vR 16), some (vI (nI D)), none, none, none, none]) (st' := [vI 0, vR 18, vR 20]) rfl ?_
    refine g_ald (k := 0) rfl (g_A (a := 18) (kd := 1) (n := 9) rfl (by decide)) (by decide) rfl (by decide) (show _ = nI (g 0) from k18) ?_
    refine g_ald (k := g 0) rfl (g_A (a := 20) (kd := 1) (n := 9) rfl (by decide)) (by decide) rfl (by omega) (show _ = nI (pgB g f D (g 0)) from hP _ (by omega)) ?_
    refine g_pure 4 (i' := 27) (lv' := [some (vR 16), some (vI (nI D)), none, none, none, none]) (st' := [vI 0, vR 19, vI (nI D), vI (nI (pgB g f D (g 0)))]) rfl ?_
    refine g_ald (k := 0) rfl (g_A (a := 19) (kd := 1) (n := 9) rfl (by decide)) (by decide) rfl (by decide) (show _ = nI (f 0) from k19) ?_
    refine g_pure 2 (i' := 30) (lv' := [some (vR 16), some (vI (nI D)), none, none, none, none]) (st' := [vI (nI D), vI (nI D - nI (f 0)), vI (nI (pgB g f D (g 0)))]) rfl ?_
    rw [g_sub rfl rfl (by omega)]
    refine g_cS1 rfl (args := [vI (nI (pgB g f D (g 0))), vI (nI (D - f 0)), vI (nI D)]) (rest := []) rfl rfl rfl (s_6 (d := d + 11) h9 (pgB_lt t2 (Nat.le_refl D) _) (by omega)) ?_
    refine g_pure 5 (i' := 36) (lv' := [some (vR 16), some (vI (nI D)), some (vI (nI (trN (pgB g f D (g 0)) (D - f 0) D))), none, none, none]) (st' := [vI (nI D), vI (nI (trN (pgB g f D (g 0)) (D - f 0) D)), vI (nI 0), vR 16]) rfl ?_
    refine g_cV1 rfl (args := [vR 16, vI (nI 0), vI (nI (trN (pgB g f D (g 0)) (D - f 0) D)), vI (nI D)]) (rest := []) rfl rfl rfl (s_7 (d := d) t2 h0 h9 k18 hP htl) ?_
    have eN := ordN_grp t2 h0 h9 hc.2.2.1 hT t5 hs
    generalize cL D (pgB g f D) ((List.range D).filter (bigB g f D)) (trN (pgB g f D (g 0)) (D - f 0) D) = m at eN
    refine g_pure 5 (i' := 42) (lv' := [some (vR 16), some (vI (nI D)), some (vI (nI (trN (pgB g f D (g 0)) (D - f 0) D))), some (vI (nI m)), some (vI (nI 0)), some (vI (nI 0))]) (st' := []) rfl ?_
    have key := g_upI (P := fun j => gW X (d + 13) k_2 42 [some (vR 16), some (vI (nI D)), some (vI (nI (trN (pgB g f D (g 0)) (D - f 0) D))), some (vI (nI (m * facN ((List.range j).filter (sinB g f D)).length))), some (vI (nI ((List.range j).filter (sinB g f D)).length)), some (vI (nI j))] [] p s2 (fun r => ∃ s, (∀ c, c ≠ 18 → c ≠ 19 → c ≠ 20 → s c = sg c) ∧ r = gRv p s (nI (ordN T D (tl / 3))))) (I := fun _ => True) (n := D) (a := 0) (by omega) trivial ?_ ?_
    · have key : gW X (d + 13) k_2 42 [some (vR 16), some (vI (nI D)), some (vI (nI (trN (pgB g f D (g 0)) (D - f 0) D))), some (vI (nI (m * 1))), some (vI (nI 0)), some (vI (nI 0))] [] p s2 _ := key
      rw [Nat.mul_one] at key
      exact key
    · intro j _ hj _ ih
      have ih := ih trivial
      have hlen : ∀ j, ((List.range j).filter (sinB g f D)).length ≤ j := fun j => Nat.le_trans (List.length_filter_le _ _) (by rw [List.length_range]; exact Nat.le_refl _)
      have hl := hlen j
      have hw9 := pgB_up t2 h9 D (Nat.le_refl _) j
      have nx : sinB g f D j = false → gW X (d + 13) k_2 42 [some (vR 16), some (vI (nI D)), some (vI (nI (trN (pgB g f D (g 0)) (D - f 0) D))), some (vI (nI (m * facN ((List.range j).filter (sinB g f D)).length))), some (vI (nI ((List.range j).filter (sinB g f D)).length)), some (vI (nI (j + 1)))] [] p s2 (fun r => ∃ s, (∀ c, c ≠ 18 → c ≠ 19 → c ≠ 20 → s c = sg c) ∧ r = gRv p s (nI (ordN T D (tl / 3)))) := fun hb => by
        rw [List.range_succ, List.filter_append, List.filter_cons_of_neg (by rw [hb]; decide), List.filter_nil, List.append_nil] at ih
        exact ih
      refine b_2_42 (d := d) (w := pgB g f D j) (by omega) (by omega) (by omega) k18 (fun _ => hP j (by omega)) (by omega) (by omega) (fun h => by omega) (fun _ h => nx (by unfold sinB; rw [decide_eq_true h]; rfl)) (fun _ _ h => nx (sinB_f (fun h9 => h ((bc_eq1 hw9).mpr h9)))) (fun _ hne h => ?_)
      have hb := sinB_t hne ((bc_eq1 hw9).mp h)
      rw [List.range_succ, List.filter_append, List.filter_cons_of_pos hb, List.filter_nil, List.length_append] at ih
      have ih : gW X (d + 13) k_2 42 [some (vR 16), some (vI (nI D)), some (vI (nI (trN (pgB g f D (g 0)) (D - f 0) D))), some (vI (nI (m * (facN ((List.range j).filter (sinB g f D)).length * (((List.range j).filter (sinB g f D)).length + 1))))), some (vI (nI (((List.range j).filter (sinB g f D)).length + 1))), some (vI (nI (j + 1)))] [] p s2 _ := ih
      rw [← Nat.mul_assoc] at ih
      exact ih
    · intro _
      have hl : ((List.range D).filter (sinB g f D)).length ≤ D := Nat.le_trans (List.length_filter_le _ _) (by rw [List.length_range]; exact Nat.le_refl _)
      refine b_2_42 (d := d) (w := 0) (by omega) (by omega) (by omega) k18 (fun h => absurd h (Nat.lt_irrefl _)) (by omega) (by omega) (fun _ => ⟨s2, hs2, by rw [eN]⟩) (fun h => by omega) (fun h => by omega) (fun h => by omega)
  · refine g_pure 1 (i' := 15) (lv' := [some (vR 16), some (vI (nI D)), none, none, none, none]) (st' := [vI 0]) rfl ?_
    refine g_iret rfl ⟨s2, hs2, ?_⟩
    rw [ordN_no h0 hc.2.2.1 hT (fun w hw hin hck => hr2 (u3.mpr (fun j hj => ?_)))]
    · rfl
    · cases c : (pgB g f j (g j)).testBit (f j)
      · rfl
      · obtain ⟨x, x1, x2, x3⟩ := pgB_bit.mp c
        have hsol := (t5 w hw).mpr hck
        exact absurd (by rw [hsol x (by omega), hsol j hj, x2, x3]) (hin x j x1 hj)
noncomputable def tablesR (A : AS) : Nat × Int32 := if clD A = true then (0, if 9 < sn A.S 9 then -3 else nI (ordN A.T (sn A.S 9) (A.tl / 3))) else (1, 0)
theorem c_tables {X : Nat × (Nat → Int32)} {d : Nat} {p : Nat → Nat} {sg : Mg} {B : Nat} {A : AS} (hI : RI B A) (hR : RC A p sg) : gF X (d + 15) 172 [vR 0] p sg (cR (useA A) (useA A) (fun _ => 0) (tablesR A) sg) := by
  have b9 := hI.1.b9
  have ht := hI.2.2.2.2.2.2.1
  refine g_in (cd := k_172) (nL := 1) (rc := 12) rfl (g_A (a := 0) (kd := 0) (n := 11) rfl (by decide)) (g_c1 rfl) ?_
  show gW X (d + 14) k_172 0 [some (vR 0)] [] p sg _
  refine g_pure 1 (i' := 1) (lv' := [some (vR 0)]) (st' := [vR 0]) rfl ?_
  refine g_calV rfl (args := [vR 0]) (rest := []) rfl rfl (Nat.zero_le _) (s_171r (d := d + 9) hI hR) (fun q hq => ?_)
  obtain ⟨s, ⟨h1, h2⟩, hq⟩ := hq
  have hR2 : RC (useA A) p s := hR.cl h1
  have h8 : ∀ c, 800 ≤ c → s c = sg c := fun c hc => h1.1 c (by omega) (by omega) (by omega)
  by_cases hc : clD A = true
  · rw [if_pos hc] at hq
    subst hq
    refine gK_0 ?_
    have hP := clP_of hc
    have hQ : clQ A.S A.T A.tl s := ⟨h1.2.2.2.2, ht, hP.1, h2 hP, hP.2⟩
    refine b_172_2 (d := d) hI.1 hR2.2.1.1 hR2.2.1.2.1 (fun h => ?_) (fun h => cR_v hR2 h8 ?_)
    · refine g_pure 5 (i' := 15) (lv' := [some (vR 0)]) (st' := [vR 202, vR 16]) rfl ?_
      refine g_getI rfl (g_A (a := 202) (kd := 0) (n := 3) rfl (by decide)) (show _ = nI (sn A.S 9) from (hR2.2.1.2.1.f5).trans hI.1.c9) ?_
      refine g_cV1E (p' := p) rfl (args := [vR 16, vI (nI (sn A.S 9))]) (rest := []) rfl rfl rfl (s_2 (d := d) hQ rfl (by omega) h) (fun s2 hs2 => ?_)
      refine g_iret rfl (cR_v (hR2.ext hI.2.2.2.1 (fun c hc => hs2 c ?_ ?_ ?_)) (fun c hc => by rw [hs2 c (by omega) (by omega) (by omega)]; exact h8 c hc) ?_)
      · unfold relC at hc; omega
      · unfold relC at hc; omega
      · unfold relC at hc; omega
      · unfold tablesR; rw [if_pos hc, if_neg (by omega)]
    · unfold tablesR; rw [if_pos hc, if_pos (by omega)]
  · rw [if_neg hc] at hq
    subst hq
    refine gK_x (cR_x hR2 h8 (c := 0) ?_ rfl)
    unfold tablesR
    rw [if_neg hc]
