/-! LAW: a line, in the reference (made by wip/whole/gen89zzp.py) -/
section
variable {X : Nat × (Nat → Int32)} {d : Nat} {p : Nat → Nat} {T : Nat → Int32} {n k l I : Nat} {E : LE} {L : LLn} {sg0 s : Mg}
/-- the kind told -/
theorem h_219 (hl : L.length = l) (h12 : l < 12) (hI : I = 1559 + 4 * l) (hL : LLm L s) (hO : EOK E L) {kd : Nat} (hk3 : kdW T n k < 3) (hkd : kdW T n k = kd) (hk : k ≤ n) (hE : E.length + 1 ≤ nxK T n k) (hM : MK T n (nxK T n k) s) (hC : LCm E s) (hF : FW sg0 s) : gW X (d + 26) k_219 28 [some (vR 800), some (vI (nI l)), some (vI (nI I))] [vI (nI kd), vI (nI I), vR 801] p s (lnLm (plLine T n k E L) T n sg0 p) := by
  have hk1 := hM.2.1
  refine g_ast rfl (g_A (a := 801) (kd := 1) (n := 2407) rfl (by decide)) (by decide) (show nI I = nI I from rfl) (by omega) ?_
  have f1 : ∀ i, i ≠ I → mu s 801 I (nI kd) 801 i = s 801 i := fun i hi => mu_idx hi
  have f2 : mu s 801 I (nI kd) 801 I = nI kd := mu_self
  have hM1 : MK T n (nxK T n k) (mu s 801 I (nI kd)) := hM.m801
  have hC1 := hC.m801 (i := I) (x := nI kd) (by omega)
  have hF1 := hF.m801 (i := I) (x := nI kd) (by omega)
  generalize mu s 801 I (nI kd) = s1 at f1 f2 hM1 hC1 hF1
  have hL1 : LLm L s1 := hL.lo (fun i hi => f1 i (by omega))
  refine g_pure 3 (i' := 32) (lv' := [some (vR 800), some (vI (nI l)), some (vI (nI I))]) (st' := [vI (nI I), vR 801]) rfl ?_
  refine g_ald rfl (g_A (a := 801) (kd := 1) (n := 2407) rfl (by decide)) (by decide) (show nI I = nI I from rfl) (by omega) (show _ = nI kd from f2) ?_
  refine g_if1 (i' := 36) (P := 0 ≤ kd) rfl rfl (g_geN rfl rfl (by omega) (by decide)) (fun _ => ?_) (fun h => absurd (Nat.zero_le _) h)
  refine g_pure 8 (i' := 44) (lv' := [some (vR 800), some (vI (nI l)), some (vI (nI I))]) (st' := [vI (nI I), vR 801, vI (nI I + 1), vR 801]) rfl ?_
  refine g_ald rfl (g_A (a := 801) (kd := 1) (n := 2407) rfl (by decide)) (by decide) (show nI I = nI I from rfl) (by omega) (show _ = nI kd from f2) ?_
  refine g_pure 1 (i' := 46) (lv' := [some (vR 800), some (vI (nI l)), some (vI (nI I))]) (st' := [vI (nI 2), vI (nI kd), vI (nI I + 1), vR 801]) rfl ?_
  refine g_if2 (i' := 53) (P := ¬ kd = 2) rfl rfl (g_neN rfl rfl (by omega) (by decide)) (fun c => ?_) (fun c => ?_)
  · have eG : plGain T n (nxK T n k) (kdW T n k) = .inr (nxK T n k, 1) := if_neg (by omega)
    refine g_pure 1 (i' := 54) (lv' := [some (vR 800), some (vI (nI l)), some (vI (nI I))]) (st' := [vI (nI 1), vI (nI I + 1), vR 801]) rfl ?_
    rw [show nI I + 1 = nI (I + 1) from nI_add I 1]
    exact g_219 (d := d) hl h12 hI hL1 hO f2 (by decide) hM1 hC1 hF1 hE (fun f h => plLine_c hk3 eG h) (fun q h => by rw [← hkd]; exact plLine_r hk3 eG h)
  · have c := Classical.not_not.mp c
    refine g_pure 4 (i' := 51) (lv' := [some (vR 800), some (vI (nI l)), some (vI (nI I))]) (st' := [vI (nI 3), vI 99, vI (nI 0), vR 800, vI (nI I + 1), vR 801]) rfl ?_
    by_cases t : tkP T n (nxK T n k) 3 0 100
    · have eG : plGain T n (nxK T n k) (kdW T n k) = .inr (nxK T n (nxK T n k), numK T n (nxK T n k)) := by unfold plGain; rw [if_pos (by omega), sel_t t]
      have g3 := nx_u hk1 t.1
      refine g_cV1E (p' := p) rfl (args := [vR 800, vI (nI 0), vI 99, vI (nI 3)]) (rest := [vI (nI I + 1), vR 801]) rfl rfl rfl (s_197a (d := d + 23) (m := 100) hM1 (by decide) (by decide) (by decide) (by decide) t) (fun s2 h2 => ?_)
      refine g_pure 1 (i' := 54) (lv' := [some (vR 800), some (vI (nI l)), some (vI (nI I))]) (st' := [vI (nI (numK T n (nxK T n k))), vI (nI I + 1), vR 801]) rfl ?_
      rw [show nI I + 1 = nI (I + 1) from nI_add I 1]
      have b1 : ∀ i, s2 801 i = s1 801 i := fun i => by rw [h2.2.1.1 801 (by decide)]
      exact g_219 (d := d) hl h12 hI (hL1.lo (fun i _ => b1 i)) hO ((b1 I).trans f2) t.2.2.2 h2.1 (hC1.mf h2.2.1) (hF1.mf h2.2.1) (by omega) (fun f h => plLine_c hk3 eG h) (fun q h => by rw [← hkd]; exact plLine_r hk3 eG h)
    · have eG : plGain T n (nxK T n k) (kdW T n k) = .inl (spK T n (nxK T n k)) := by unfold plGain; rw [if_pos (by omega), sel_f t]
      refine g_cV1E (p' := p) rfl (args := [vR 800, vI (nI 0), vI 99, vI (nI 3)]) (rest := [vI (nI I + 1), vR 801]) rfl rfl rfl (s_197b (d := d + 23) (m := 100) hM1 (by decide) (by decide) (by decide) (by decide) t) (fun s2 h2 => ?_)
      refine g_pure 1 (i' := 54) (lv' := [some (vR 800), some (vI (nI l)), some (vI (nI I))]) (st' := [vI (-1), vI (nI I + 1), vR 801]) rfl ?_
      refine g_ast rfl (g_A (a := 801) (kd := 1) (n := 2407) rfl (by decide)) (by decide) (show nI I + 1 = nI (I + 1) from nI_add I 1) (by omega) ?_
      refine g_pure 5 (i' := 60) (lv' := [some (vR 800), some (vI (nI l)), some (vI (nI I))]) (st' := [vI (nI I + 1), vR 801]) rfl ?_
      refine g_ald rfl (g_A (a := 801) (kd := 1) (n := 2407) rfl (by decide)) (by decide) (show nI I + 1 = nI (I + 1) from nI_add I 1) (by omega) (show _ = (-1 : Int32) from mu_self) ?_
      refine g_if1 (i' := 64) (P := False) rfl rfl ⟨fun h => absurd (show (0 : Int32) ≤ -1 from h) (by decide), False.elim⟩ False.elim (fun _ => ?_)
      refine g_pure 1 (i' := 63) (lv' := [some (vR 800), some (vI (nI l)), some (vI (nI I))]) (st' := [vI 0]) rfl ?_
      rw [plLine_g hk3 eG]
      exact g_bret rfl g_nar0 ⟨_, ⟨(hF1.mf h2.1).m801 (i := I + 1) (by omega), by rw [mu_ne (by decide)]; exact h2.2⟩, rfl⟩
end
theorem s_219 {X : Nat × (Nat → Int32)} {d : Nat} {p : Nat → Nat} {sg : Mg} {T : Nat → Int32} {n k l : Nat} {E : LE} {L : LLn} (hM : ML T n k sg) (hC : LCm E sg) (hL : LLm L sg) (hl : L.length = l) (h12 : l < 12) (hE : E.length ≤ k) (hO : EOK E L) : gF X (d + 27) 219 [vR 800, vI (nI l)] p sg (lnLm (plLine T n k E L) T n sg p) := by
  have hk := hM.2.1
  refine g_in (cd := k_219) (nL := 3) (rc := 13) rfl (g_A (a := 800) (kd := 0) (n := 12) rfl (by decide)) (g_c1 rfl) ?_
  show gW X (d + 26) k_219 0 [some (vR 800), some (vI (nI l)), none] [] p sg _
  refine g_pure 6 (i' := 6) (lv' := [some (vR 800), some (vI (nI l)), some (vI (1559 + (4 * nI l)))]) (st' := []) rfl ?_
  rw [show (1559 + (4 * nI l) : Int32) = nI (1559 + 4 * l) from g_add (show (1559 : Int32) = nI 1559 from rfl) (g_mul (show (4 : Int32) = nI 4 from rfl) rfl)]
  obtain ⟨I, hI⟩ : ∃ I, I = 1559 + 4 * l := ⟨_, rfl⟩
  rw [← hI]
  have go : ∀ {w : List Int32}, wL w → isW T n k w → E.length + 1 ≤ nxK T n k := fun hw h => by
    have := nx_w hk hw.1 h
    omega
  refine g_pure 5 (i' := 11) (lv' := [some (vR 800), some (vI (nI l)), some (vI (nI I))]) (st' := [vS 63, vR 800, vI (nI I), vR 801]) rfl ?_
  refine g_cV1 rfl (args := [vR 800, vS 63]) (rest := [vI (nI I), vR 801]) rfl rfl rfl (s_193w (d := d + 25) (by decide) (wL_of (by decide)) hM) ?_
  refine g_if1 (i' := 15) (P := ¬ dcN (isW T n k (am_SL 63)) = true) rfl rfl g_eqB (fun n1 => ?_) (fun h => ?_)
  rotate_left
  · have h : isW T n k (am_SL 17) := dcN_i.mp (Classical.not_not.mp h)
    have e : kdW T n k = 0 := sel_t h
    refine g_pure 2 (i' := 28) (lv' := [some (vR 800), some (vI (nI l)), some (vI (nI I))]) (st' := [vI (nI 0), vI (nI I), vR 801]) rfl ?_
    exact h_219 (d := d) hl h12 hI hL hO (by omega) e hk (go (wL_of (by decide)) h) (hM.w (wL_of (by decide)) h) hC (FW.rf sg)
  have n1 : ¬ isW T n k (am_SL 17) := dcN_n.mp n1
  refine g_pure 2 (i' := 17) (lv' := [some (vR 800), some (vI (nI l)), some (vI (nI I))]) (st' := [vS 64, vR 800, vI (nI I), vR 801]) rfl ?_
  refine g_cV1 rfl (args := [vR 800, vS 64]) (rest := [vI (nI I), vR 801]) rfl rfl rfl (s_193w (d := d + 25) (by decide) (wL_of (by decide)) hM) ?_
  refine g_if1 (i' := 21) (P := ¬ dcN (isW T n k (am_SL 64)) = true) rfl rfl g_eqB (fun n2 => ?_) (fun h => ?_)
  rotate_left
  · have h : isW T n k (am_SL 18) := dcN_i.mp (Classical.not_not.mp h)
    have e : kdW T n k = 1 := by unfold kdW; rw [sel_f n1, sel_t h]
    refine g_pure 2 (i' := 28) (lv' := [some (vR 800), some (vI (nI l)), some (vI (nI I))]) (st' := [vI (nI 1), vI (nI I), vR 801]) rfl ?_
    exact h_219 (d := d) hl h12 hI hL hO (by omega) e hk (go (wL_of (by decide)) h) (hM.w (wL_of (by decide)) h) hC (FW.rf sg)
  have n2 : ¬ isW T n k (am_SL 18) := dcN_n.mp n2
  refine g_pure 2 (i' := 23) (lv' := [some (vR 800), some (vI (nI l)), some (vI (nI I))]) (st' := [vS 65, vR 800, vI (nI I), vR 801]) rfl ?_
  refine g_cV1 rfl (args := [vR 800, vS 65]) (rest := [vI (nI I), vR 801]) rfl rfl rfl (s_193w (d := d + 25) (by decide) (wL_of (by decide)) hM) ?_
  refine g_if1 (i' := 27) (P := ¬ dcN (isW T n k (am_SL 65)) = true) rfl rfl g_eqB (fun n3 => ?_) (fun h => ?_)
  rotate_left
  · have h : isW T n k (am_SL 19) := dcN_i.mp (Classical.not_not.mp h)
    have e : kdW T n k = 2 := by unfold kdW; rw [sel_f n1, sel_f n2, sel_t h]
    refine g_pure 2 (i' := 28) (lv' := [some (vR 800), some (vI (nI l)), some (vI (nI I))]) (st' := [vI (nI 2), vI (nI I), vR 801]) rfl ?_
    exact h_219 (d := d) hl h12 hI hL hO (by omega) e hk (go (wL_of (by decide)) h) (hM.w (wL_of (by decide)) h) hC (FW.rf sg)
  have n3 : ¬ isW T n k (am_SL 19) := dcN_n.mp n3
  have e : kdW T n k = 3 := by unfold kdW; rw [sel_f n1, sel_f n2, sel_f n3]
  refine g_pure 1 (i' := 28) (lv' := [some (vR 800), some (vI (nI l)), some (vI (nI I))]) (st' := [vI (-1), vI (nI I), vR 801]) rfl ?_
  refine g_ast rfl (g_A (a := 801) (kd := 1) (n := 2407) rfl (by decide)) (by decide) (show nI I = nI I from rfl) (by omega) ?_
  refine g_pure 3 (i' := 32) (lv' := [some (vR 800), some (vI (nI l)), some (vI (nI I))]) (st' := [vI (nI I), vR 801]) rfl ?_
  refine g_ald rfl (g_A (a := 801) (kd := 1) (n := 2407) rfl (by decide)) (by decide) (show nI I = nI I from rfl) (by omega) (show _ = (-1 : Int32) from mu_self) ?_
  refine g_if1 (i' := 36) (P := False) rfl rfl ⟨fun h => absurd (show (0 : Int32) ≤ -1 from h) (by decide), False.elim⟩ False.elim (fun _ => ?_)
  refine g_pure 1 (i' := 35) (lv' := [some (vR 800), some (vI (nI l)), some (vI (nI I))]) (st' := [vI 0]) rfl ?_
  rw [plLine_k (by omega)]
  exact g_bret rfl g_nar0 ⟨_, ⟨(FW.rf sg).m801 (i := I) (by omega), by rw [mu_ne (by decide)]; exact hM.2.2.2⟩, rfl⟩
