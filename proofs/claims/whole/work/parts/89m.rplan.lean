/-! PLAN: the call of the reference, whole (made by wip/whole/gen89m.py) -/
theorem m_plan {X : Nat × (Nat → Int32)} {d : Nat} {p : Nat → Nat} {sg : Mg} {B : Nat} {A : AS} (hI : RI B A) (hR : RM A sg) {x y : Int32} {W : Prop} [Decidable W] : gF X (d + 12) 304 [vR 800, vI x, vI y, vI (if W then 1 else 0)] p sg (mR A A (planR A.S x y W) p sg) := by
  have b1 := hI.1.b1; have b5 := hI.1.b5; have b8 := hI.1.b8
  refine g_in (cd := k_304) (nL := 7) (rc := 13) rfl (g_A (a := 800) (kd := 0) (n := 12) rfl (by decide)) (g_c1 rfl) (b_304_0 hI.1 hR.1 (fun s1 f1 h s3 f3 => ?_) (fun s1 f1 k ek hk s7 f7 => ?_))
  · refine mR_x ((hR.th f1).th f3) (fun c hc => by rw [f3, f1, up_hi hc, up_hi hc]) (c := 0) (by rw [f3, mu_self]) ?_
    unfold planR
    rw [if_neg h]
  subst ek
  have e1 : planR A.S (nI k) y W = (0, if 5 < popc 9 (plO A.S y) then -3 else plV A.S k (plO A.S y) W) := by
    unfold planR
    rw [if_pos ((okx_nI (by omega)).mpr (by omega)), nI_clamp (by omega)]
  rw [e1]
  generalize hV : (if 5 < popc 9 (plO A.S y) then (-3 : Int32) else plV A.S k (plO A.S y) W) = V
  have hS7 : s7 801 = A.S := by rw [f7, mu_ne (by decide), f1, mu_ne (by decide)]; exact hR.1
  refine l_304_19 hI.1 hS7 (by omega) (by rw [f7, mu_self]; rfl) (by rw [f7, mu_idx (by decide), f1, mu_self]) (fun m np c pk hm hJ hc8 => ?_)
  have hm : PF sg m := ⟨fun a c1 c2 c3 c4 => (hm.1 a c1 c2 c3 c4).trans (by rw [f7, mu_ne c1, f1, mu_ne c1]), fun i c1 c2 => (hm.2.1 i c1 c2).trans (by rw [f7, mu_idx c2, f1, mu_idx c1]), hm.2.2⟩
  have hSS : ∀ s, PF sg s → s 801 = A.S := fun s h => by rw [h.1 801 (by decide) (by decide) (by decide) (by decide)]; exact hR.1
  have out : ∀ s v w, PF sg s → w = v → mR A A (0, w) p sg (gRv p s v) := fun s v w h e => by
    subst e
    exact mR_v (h.rm hR) (fun c hc => h.1 c (by omega) (by omega) (by omega) (by omega)) h.2.2 rfl
  obtain ⟨j1, j2, j3, j4, j5, j6, j7, j8, j9⟩ := hJ
  have hpc : popc 9 (plO A.S y) = c := by rw [j5]; exact popc_bset (by omega)
  have h8 := plO_lt hI.1 y
  have hO := plO_ok (S := A.S) (y := y)
  refine b_304_53 hI.1 (hSS m hm) (by omega) hc8 (fun h5 hc0 => ?_) (fun h5 hc0 hw => ?_) (fun h5 hc0 hw => ?_) (fun h5 => ?_)
  · have hnp : np = c := by
      rcases Nat.lt_or_ge np 5 with h | h
      · exact j4 h
      · omega
    have hPK : PK A.S (plO A.S y) np pk := by
      refine ⟨fun i hi => ⟨(j7 i hi).1, plO_bit.mpr (j7 i hi)⟩, fun i j hi hj e => ?_, fun q hq => ?_⟩
      · rcases Nat.lt_trichotomy i j with h | h | h
        · have := j8 i j h hj; omega
        · exact h
        · have := j8 j i h hi; omega
      · obtain ⟨g1, g2⟩ := plO_bit.mp hq
        exact j9 hnp q g1 g2
    have hO0 : ¬ plO A.S y = 0 := fun e => by
      have := (hPK.1 0 (by omega)).2
      rw [e, Nat.zero_testBit] at this
      cases this
    have hp5 : popc 9 (plO A.S y) ≤ 5 := by omega
    have e2 : V = if aaB A.S (plO A.S y) = true ∧ plT A.S k (plO A.S y) < 401 then (if W then nI (plQ A.S k (plO A.S y) (sn A.S 8 + plT A.S k (plO A.S y))) else nI (sn A.S 8 + plT A.S k (plO A.S y))) else -1 := by
      rw [← hV, show (if 5 < popc 9 (plO A.S y) then (-3 : Int32) else plV A.S k (plO A.S y) W) = plV A.S k (plO A.S y) W from if_neg (by omega)]
      unfold plV
      rw [if_neg hO0]
    refine g_pure 3 (i' := 70) (lv' := [some (vR 800), some (vI (nI k)), some (vI y), some (vI (if W then 1 else 0)), some (vI (nI c)), some (vI (nI (sn A.S 5))), none]) (st' := [vI (-1), vI (nI k), vR 800]) rfl ?_
    refine g_cV1E rfl (args := [vR 800, vI (nI k), vI (-1)]) (rest := []) rfl rfl rfl (s_305 (d := d + 1) hI.1 (hSS m hm) hI.2.2.1 hPK j2 (by omega) hk ⟨j1, j6⟩) (fun m2 g2 => ?_)
    have hm2 := hm.sp g2
    have hq2 : pkQ np pk m2 := pkQ.sp ⟨j1, j6⟩ g2
    by_cases hT : pbT A.S k np pk (-1) < 401
    · have ha : aaP A.S (plO A.S y) (sn A.S 5) := Classical.byContradiction (fun h => pb_none hPK h hT)
      have eT := pb_any hI.1 hPK hO ha hO0 h8 hp5 (k := k)
      rw [if_pos hT]
      rw [eT] at hT ⊢
      have e4 : V = (if W then nI (plQ A.S k (plO A.S y) (sn A.S 8 + plT A.S k (plO A.S y))) else nI (sn A.S 8 + plT A.S k (plO A.S y))) := by rw [e2]; exact if_pos ⟨aaB_t ha, hT⟩
      have hq0 : ¬ nI (plT A.S k (plO A.S y)) < 0 := Int32.not_lt.mpr (nI_pos' (by omega))
      have hv : A.S 8 + nI (plT A.S k (plO A.S y)) = nI (sn A.S 8 + plT A.S k (plO A.S y)) := by rw [← nI_add, ← hI.1.c8]
      refine g_pure 1 (i' := 72) (lv' := [some (vR 800), some (vI (nI k)), some (vI y), some (vI (if W then 1 else 0)), some (vI (nI c)), some (vI (nI (plT A.S k (plO A.S y)))), none]) (st' := []) rfl ?_
      refine b_304_72 hI.1 (hSS m2 hm2) (by omega) hc8 (fun h _ => absurd h hq0) (fun h _ => absurd h hq0) (fun _ hw => ?_) (fun _ hw _ => ?_) (fun _ hw h => absurd (nI_pos' (by omega)) h)
      · have e5 : V = nI (plQ A.S k (plO A.S y) (sn A.S 8 + plT A.S k (plO A.S y))) := by rw [e4, if_pos hw]
        have hX := pl_fits hT
        have hi0 : ∃ i0, i0 < np ∧ CHq A.S k 4 (plO A.S y) (hmN A.S k) (stN A.S k) (stN A.S k) (pk i0) (sn A.S 8 + plT A.S k (plO A.S y)) ∧ ∀ i, i < i0 → ¬ CHq A.S k 4 (plO A.S y) (hmN A.S k) (stN A.S k) (stN A.S k) (pk i) (sn A.S 8 + plT A.S k (plO A.S y)) := by
          obtain ⟨q, hq⟩ := (CH.nz hO0).mp hX
          have hqb : (plO A.S y).testBit q = true := by obtain ⟨tm, g, _⟩ := hq; exact g.2.1
          obtain ⟨i, hi, ei⟩ := hPK.2.2 q hqb
          have sp := fnd_spec (fun i => plD A.S k (plO A.S y) (sn A.S 8 + plT A.S k (plO A.S y)) (pk i)) np 0
          have hlt : fnd (fun i => plD A.S k (plO A.S y) (sn A.S 8 + plT A.S k (plO A.S y)) (pk i)) np 0 < np := by
            rcases Nat.lt_or_ge (fnd (fun i => plD A.S k (plO A.S y) (sn A.S 8 + plT A.S k (plO A.S y)) (pk i)) np 0) np with h | h
            · exact h
            · have := sp.2.2.1 i (Nat.zero_le _) (by omega)
              exact absurd (by rw [ei]; exact hq) (plD_f.mp this)
          exact ⟨_, hlt, plD_t.mp (sp.2.2.2 (by omega)), fun i hi => plD_f.mp (sp.2.2.1 i (Nat.zero_le _) hi)⟩
        obtain ⟨i0, hi0, hc0, hl0⟩ := hi0
        have hp0 := (hPK.1 i0 hi0).1
        have hQ : plQ A.S k (plO A.S y) (sn A.S 8 + plT A.S k (plO A.S y)) = pk i0 := plQ_at (by omega) (plD_t.mpr hc0) (fun t ht => plD_f.mpr (fun g => by
          have hqb : (plO A.S y).testBit t = true := by obtain ⟨tm, g, _⟩ := g; exact g.2.1
          obtain ⟨i, hi, ei⟩ := hPK.2.2 t hqb
          rcases Nat.lt_trichotomy i i0 with h | h | h
          · exact hl0 i h (by rw [ei]; exact g)
          · subst h; omega
          · have := j8 i0 i h hi; omega))
        rw [hQ] at e5
        refine g_pure 2 (i' := 87) (lv' := [some (vR 800), some (vI (nI k)), some (vI y), some (vI (if W then 1 else 0)), some (vI (nI c)), some (vI (nI (plT A.S k (plO A.S y)))), some (vI 0)]) (st' := []) rfl ?_
        have key := g_upI (P := fun i => ∀ m2, PF sg m2 → pkQ np pk m2 → gW X (d + 11) k_304 87 [some (vR 800), some (vI (nI k)), some (vI y), some (vI (if W then 1 else 0)), some (vI (nI c)), some (vI (nI (plT A.S k (plO A.S y)))), some (vI (nI i))] [] p m2 (mR A A (0, V) p sg)) (I := fun _ => True) (n := i0) (a := 0) (by omega) trivial ?_ ?_
        · exact key m2 hm2 hq2
        · intro i _ hi _ ih m2 hm2 hq2
          have hpi := (hPK.1 i (by omega)).1
          refine b_304_87 hI.1 (hSS m2 hm2) (by omega) hc8 (by omega) ?_
          rw [hq2.2 i (by omega)]
          refine g_cV1E rfl (args := [vR 800, vI (nI k), vI (nI (pk i))]) (rest := []) rfl rfl rfl (s_305 (d := d + 1) hI.1 (hSS m2 hm2) hI.2.2.1 hPK j2 (by omega) hk hq2) (fun m3 g3 => ?_)
          refine g_pure 1 (i' := 95) (lv' := [some (vR 800), some (vI (nI k)), some (vI y), some (vI (if W then 1 else 0)), some (vI (nI c)), some (vI (nI (plT A.S k (plO A.S y)))), some (vI (nI i))]) (st' := [vI (nI (plT A.S k (plO A.S y))), vI (if pbT A.S k np pk (nI (pk i)) < 401 then nI (pbT A.S k np pk (nI (pk i))) else -1)]) rfl ?_
          refine g_if2 (i' := 98) rfl rfl (pb_one hI.1 hPK hO ha hO0 h8 hp5 hT (show pk i < 8 by omega)) (fun h => absurd h (hl0 i hi)) (fun _ => ?_)
          exact b_304_96 hI.1 (hSS m3 (hm2.sp g3)) (by omega) hc8 (by omega) (ih trivial m3 (hm2.sp g3) (hq2.sp g3))
        · intro _ m2 hm2 hq2
          refine b_304_87 hI.1 (hSS m2 hm2) (by omega) hc8 (by omega) ?_
          rw [hq2.2 i0 hi0]
          refine g_cV1E rfl (args := [vR 800, vI (nI k), vI (nI (pk i0))]) (rest := []) rfl rfl rfl (s_305 (d := d + 1) hI.1 (hSS m2 hm2) hI.2.2.1 hPK j2 (by omega) hk hq2) (fun m3 g3 => ?_)
          refine g_pure 1 (i' := 95) (lv' := [some (vR 800), some (vI (nI k)), some (vI y), some (vI (if W then 1 else 0)), some (vI (nI c)), some (vI (nI (plT A.S k (plO A.S y)))), some (vI (nI i0))]) (st' := [vI (nI (plT A.S k (plO A.S y))), vI (if pbT A.S k np pk (nI (pk i0)) < 401 then nI (pbT A.S k np pk (nI (pk i0))) else -1)]) rfl ?_
          refine g_if2 (i' := 98) rfl rfl (pb_one hI.1 hPK hO ha hO0 h8 hp5 hT (show pk i0 < 8 by omega)) (fun _ => ?_) (fun h => absurd hc0 h)
          exact b_304_98 hI.1 (hSS m3 (hm2.sp g3)) (by omega) hc8 (by omega) (out m3 _ _ (hm2.sp g3) (e5.trans ((hq2.sp g3).2 i0 hi0).symm))
      · exact out m2 _ _ hm2 ((e4.trans (if_neg hw)).trans hv.symm)
    · rw [if_neg hT]
      have e3 : ¬ (aaB A.S (plO A.S y) = true ∧ plT A.S k (plO A.S y) < 401) := fun h => by
        have ha : aaP A.S (plO A.S y) (sn A.S 5) := Classical.byContradiction (fun h2 => by rw [aaB_f h2] at h; exact absurd h.1 (by decide))
        rw [pb_any hI.1 hPK hO ha hO0 h8 hp5] at hT
        exact hT h.2
      have e4 : V = -1 := by rw [e2]; exact if_neg e3
      refine g_pure 1 (i' := 72) (lv' := [some (vR 800), some (vI (nI k)), some (vI y), some (vI (if W then 1 else 0)), some (vI (nI c)), some (vI (-1)), none]) (st' := []) rfl ?_
      exact b_304_72 hI.1 (hSS m2 hm2) (by omega) hc8 (fun _ h => absurd h (by decide)) (fun _ _ => out m2 _ _ hm2 e4) (fun h => absurd (by decide) h) (fun h => absurd (by decide) h) (fun h => absurd (by decide) h)
  all_goals try
    have hO0 : plO A.S y = 0 := Nat.eq_of_testBit_eq (fun q => by
      rw [Nat.zero_testBit]
      by_cases h : (plO A.S y).testBit q = true
      · obtain ⟨g1, g2⟩ := plO_bit.mp h
        obtain ⟨i, hi, _⟩ := j9 (by omega) q g1 g2
        omega
      · simpa using h)
    have e2 : V = if W then -1 else A.S 8 := by
      rw [← hV, show (if 5 < popc 9 (plO A.S y) then (-3 : Int32) else plV A.S k (plO A.S y) W) = plV A.S k (plO A.S y) W from if_neg (by omega)]
      unfold plV
      rw [if_pos hO0]
  · exact out m _ _ hm (by rw [e2, if_neg hw])
  · exact out m _ _ hm (by rw [e2, if_pos hw])
  · exact out m _ _ hm (by rw [← hV]; exact if_pos (by omega))
