/-! ALL TALK: the reference (made by wip/whole/gen62.py) -/
theorem b_268_0 {X : Nat × (Nat → Int32)} {d : Nat} {p : Nat → Nat} {sg : Mg} {Q : am_R → Prop} {B : Nat} {S : Nat → Int32} (hI : Inv B S) (hS : sg 801 = S)
    (o1 : gW X (d + 6) k_268 2 [some (vR 800), some (vI 0), none, none, none] [] p sg Q) :
    gW X (d + 6) k_268 0 [some (vR 800), none, none, none, none] [] p sg Q := by
  have b0 := hI.b0; have b1 := hI.b1; have b2 := hI.b2; have b3 := hI.b3; have b4 := hI.b4; have b5 := hI.b5; have b6 := hI.b6; have b7 := hI.b7; have b8 := hI.b8; have b9 := hI.b9; have b14 := hI.b14
  refine g_pure 2 (i' := 2) (lv' := [some (vR 800), some (vI 0), none, none, none]) (st' := []) rfl ?_
  exact o1

theorem b_268_v {X : Nat × (Nat → Int32)} {d : Nat} {p : Nat → Nat} {sg : Mg} {Q : am_R → Prop} {B : Nat} {S : Nat → Int32} (hI : Inv B S) (hS : sg 801 = S) {v : Nat} (hA : InvA S) {j : Nat} (u_j : j ≤ 8) (q1 : j < sn S 1) (q2 : v < sn S 0) (hv : S (113 + 6 * j) = nI v)
    (o1 : ∀ s3 : Mg, (∃ f, s3 = va_up sg 807 f) → (gsm S (scf S j v (sn S 8)) 1 (nln S) ≤ 0) → ∀ s6 : Mg, s6 = mu s3 808 j (S (113 + 6 * j + 5)) → gW X (d + 6) k_268 2 [some (vR 800), some (vI (nI (j + 1))), none, none, none] [] p s6 Q)
    (o2 : ∀ s3 : Mg, (∃ f, s3 = va_up sg 807 f) → (¬ (gsm S (scf S j v (sn S 8)) 1 (nln S) ≤ 0)) → ∀ s7 : Mg, s7 = mu s3 808 j 0 → gW X (d + 6) k_268 2 [some (vR 800), some (vI (nI (j + 1))), none, none, none] [] p s7 Q) :
    gW X (d + 6) k_268 2 [some (vR 800), some (vI (nI j)), none, none, none] [] p sg Q := by
  have b0 := hI.b0; have b1 := hI.b1; have b2 := hI.b2; have b3 := hI.b3; have b4 := hI.b4; have b5 := hI.b5; have b6 := hI.b6; have b7 := hI.b7; have b8 := hI.b8; have b9 := hI.b9; have b14 := hI.b14
  refine g_pure 2 (i' := 4) (lv' := [some (vR 800), some (vI (nI j)), none, none, none]) (st' := [vR 800, vI (nI j)]) rfl ?_
  refine g_cV1 rfl (args := [vR 800]) (rest := [vI (nI j)]) rfl rfl rfl (s_203 (d := d + 5) hS) ?_
  refine g_if2 (i' := 34) (P := sn S 1 ≤ j) rfl rfl (g_geN (show nI j = nI j from (rfl : nI j = nI j)) (show S 1 = nI (sn S 1) from (hI.c1)) (by omega) (by omega)) (fun h1 => absurd h1 (by omega)) (fun _ => ?_)
  refine g_pure 6 (i' := 12) (lv' := [some (vR 800), some (vI (nI j)), none, none, none]) (st' := [vI 0, vI (nI j), vR 800, vI (nI j), vR 808]) rfl ?_
  refine gW_eq (st' := [vI (nI 0), vI (nI j), vR 800, vI (nI j), vR 808]) rfl (by rw [(show (0 : Int32) = nI 0 from rfl)]) rfl ?_
  refine g_cV1 rfl (args := [vR 800, vI (nI j), vI (nI 0)]) (rest := [vI (nI j), vR 808]) rfl rfl rfl (s_238 (d := d + 5) hS (by omega) (by omega)) ?_
  refine gW_eq (st' := [vI (S (113 + 6 * j)), vI (nI j), vR 808]) rfl (by rw [show S (113 + 6 * j + 0) = S (113 + 6 * j) from congrArg S (by omega)]) rfl ?_
  refine gW_eq (st' := [vI (nI v), vI (nI j), vR 808]) rfl (by rw [show S (113 + 6 * j) = nI v from hv]) rfl ?_
  refine g_if1 (i' := 25) (P := v < 0) rfl rfl (g_ltN (show nI v = nI v from (rfl : nI v = nI v)) (show 0 = nI 0 from (show (0 : Int32) = nI 0 from rfl)) (by omega) (by omega)) (fun h2 => absurd h2 (by omega)) (fun _ => ?_)
  refine g_pure 6 (i' := 20) (lv' := [some (vR 800), some (vI (nI j)), none, none, none]) (st' := [vI 0, vI (nI j), vR 800, vI (nI j), vI 1, vR 800, vI (nI j), vR 808]) rfl ?_
  refine gW_eq (st' := [vI (nI 0), vI (nI j), vR 800, vI (nI j), vI 1, vR 800, vI (nI j), vR 808]) rfl (by rw [(show (0 : Int32) = nI 0 from rfl)]) rfl ?_
  refine g_cV1 rfl (args := [vR 800, vI (nI j), vI (nI 0)]) (rest := [vI (nI j), vI 1, vR 800, vI (nI j), vR 808]) rfl rfl rfl (s_238 (d := d + 5) hS (by omega) (by omega)) ?_
  refine gW_eq (st' := [vI (S (113 + 6 * j)), vI (nI j), vI 1, vR 800, vI (nI j), vR 808]) rfl (by rw [show S (113 + 6 * j + 0) = S (113 + 6 * j) from congrArg S (by omega)]) rfl ?_
  refine gW_eq (st' := [vI (nI v), vI (nI j), vI 1, vR 800, vI (nI j), vR 808]) rfl (by rw [show S (113 + 6 * j) = nI v from hv]) rfl ?_
  refine g_pure 1 (i' := 22) (lv' := [some (vR 800), some (vI (nI j)), none, none, none]) (st' := [vR 800, vI (nI v), vI (nI j), vI 1, vR 800, vI (nI j), vR 808]) rfl ?_
  refine g_cV1 rfl (args := [vR 800]) (rest := [vI (nI v), vI (nI j), vI 1, vR 800, vI (nI j), vR 808]) rfl rfl rfl (s_248 (d := d + 5) hS) ?_
  refine gW_eq (st' := [vI (nI (sn S 8)), vI (nI v), vI (nI j), vI (nI 1), vR 800, vI (nI j), vR 808]) rfl (by rw [(show (1 : Int32) = nI 1 from rfl), (show S 8 = nI (sn S 8) from (hI.c8))]) rfl ?_
  refine g_cV1E rfl (args := [vR 800, vI (nI 1), vI (nI j), vI (nI v), vI (nI (sn S 8))]) (rest := [vI (nI j), vR 808]) rfl rfl rfl (s_249 (d := d) hI hS hA (by omega) (by omega) (by omega) (by omega)) (fun s3 es3 => ?_)
  have hSs3 : s3 801 = S := by obtain ⟨f9, h9⟩ := es3; rw [h9, va_up_ne _ _ (by decide)]; exact hS
  have t4 := gsm_lt hA (sc := scf S j v (sn S 8)) 1
  refine g_if1 (i' := 27) (P := gsm S (scf S j v (sn S 8)) 1 (nln S) ≤ 0) rfl rfl (g_leN (show nI (gsm S (scf S j v (sn S 8)) 1 (nln S)) = nI (gsm S (scf S j v (sn S 8)) 1 (nln S)) from (rfl : nI (gsm S (scf S j v (sn S 8)) 1 (nln S)) = nI (gsm S (scf S j v (sn S 8)) 1 (nln S)))) (show 0 = nI 0 from (show (0 : Int32) = nI 0 from rfl)) (by omega) (by omega)) (fun h5 => ?_) (fun h5 => ?_)
  · refine g_pure 3 (i' := 30) (lv' := [some (vR 800), some (vI (nI j)), none, none, none]) (st' := [vI 5, vI (nI j), vR 800, vI (nI j), vR 808]) rfl ?_
    refine gW_eq (st' := [vI (nI 5), vI (nI j), vR 800, vI (nI j), vR 808]) rfl (by rw [(show (5 : Int32) = nI 5 from rfl)]) rfl ?_
    refine g_cV1 rfl (args := [vR 800, vI (nI j), vI (nI 5)]) (rest := [vI (nI j), vR 808]) rfl rfl rfl (s_238 (d := d + 5) hSs3 (by omega) (by omega)) ?_
    refine g_ast rfl (g_A (a := 808) (kd := 1) (n := 8) rfl (by decide)) (by decide) (show nI j = nI j from (rfl : nI j = nI j)) (by omega) ?_
    refine g_setv (fun s6 es6 => ?_)
    have hSs6 : s6 801 = S := by rw [es6, mu_ne (by decide), hSs3]
    refine g_pure 2 (i' := 2) (lv' := [some (vR 800), some (vI (nI j + 1)), none, none, none]) (st' := []) rfl ?_
    refine gW_eq (lv' := [some (vR 800), some (vI (nI (j + 1))), none, none, none]) (st' := []) (by rw [(show (nI j + 1) = nI (j + 1) from ((g_add (rfl : nI j = nI j) (show (1 : Int32) = nI 1 from rfl))).trans (congrArg nI (by omega)))]) rfl rfl ?_
    exact o1 s3 es3 h5 s6 es6
  · refine g_pure 2 (i' := 31) (lv' := [some (vR 800), some (vI (nI j)), none, none, none]) (st' := [vI 0, vI (nI j), vR 808]) rfl ?_
    refine g_ast rfl (g_A (a := 808) (kd := 1) (n := 8) rfl (by decide)) (by decide) (show nI j = nI j from (rfl : nI j = nI j)) (by omega) ?_
    refine g_setv (fun s7 es7 => ?_)
    have hSs7 : s7 801 = S := by rw [es7, mu_ne (by decide), hSs3]
    refine g_pure 2 (i' := 2) (lv' := [some (vR 800), some (vI (nI j + 1)), none, none, none]) (st' := []) rfl ?_
    refine gW_eq (lv' := [some (vR 800), some (vI (nI (j + 1))), none, none, none]) (st' := []) (by rw [(show (nI j + 1) = nI (j + 1) from ((g_add (rfl : nI j = nI j) (show (1 : Int32) = nI 1 from rfl))).trans (congrArg nI (by omega)))]) rfl rfl ?_
    exact o2 s3 es3 h5 s7 es7

theorem b_268_x {X : Nat × (Nat → Int32)} {d : Nat} {p : Nat → Nat} {sg : Mg} {Q : am_R → Prop} {B : Nat} {S : Nat → Int32} (hI : Inv B S) (hS : sg 801 = S) {j : Nat} (u_j : j ≤ 8) (q1 : j < sn S 1) (hv : S (113 + 6 * j) = -1)
    (o1 : ∀ s3 : Mg, s3 = mu sg 808 j 0 → gW X (d + 6) k_268 2 [some (vR 800), some (vI (nI (j + 1))), none, none, none] [] p s3 Q) :
    gW X (d + 6) k_268 2 [some (vR 800), some (vI (nI j)), none, none, none] [] p sg Q := by
  have b0 := hI.b0; have b1 := hI.b1; have b2 := hI.b2; have b3 := hI.b3; have b4 := hI.b4; have b5 := hI.b5; have b6 := hI.b6; have b7 := hI.b7; have b8 := hI.b8; have b9 := hI.b9; have b14 := hI.b14
  refine g_pure 2 (i' := 4) (lv' := [some (vR 800), some (vI (nI j)), none, none, none]) (st' := [vR 800, vI (nI j)]) rfl ?_
  refine g_cV1 rfl (args := [vR 800]) (rest := [vI (nI j)]) rfl rfl rfl (s_203 (d := d + 5) hS) ?_
  refine g_if2 (i' := 34) (P := sn S 1 ≤ j) rfl rfl (g_geN (show nI j = nI j from (rfl : nI j = nI j)) (show S 1 = nI (sn S 1) from (hI.c1)) (by omega) (by omega)) (fun h1 => absurd h1 (by omega)) (fun _ => ?_)
  refine g_pure 6 (i' := 12) (lv' := [some (vR 800), some (vI (nI j)), none, none, none]) (st' := [vI 0, vI (nI j), vR 800, vI (nI j), vR 808]) rfl ?_
  refine gW_eq (st' := [vI (nI 0), vI (nI j), vR 800, vI (nI j), vR 808]) rfl (by rw [(show (0 : Int32) = nI 0 from rfl)]) rfl ?_
  refine g_cV1 rfl (args := [vR 800, vI (nI j), vI (nI 0)]) (rest := [vI (nI j), vR 808]) rfl rfl rfl (s_238 (d := d + 5) hS (by omega) (by omega)) ?_
  refine gW_eq (st' := [vI (S (113 + 6 * j)), vI (nI j), vR 808]) rfl (by rw [show S (113 + 6 * j + 0) = S (113 + 6 * j) from congrArg S (by omega)]) rfl ?_
  refine gW_eq (st' := [vI (-1), vI (nI j), vR 808]) rfl (by rw [show S (113 + 6 * j) = (-1) from hv]) rfl ?_
  refine g_if1 (i' := 25) (P := ((-1) : Int32) < 0) rfl rfl Iff.rfl (fun _ => ?_) (fun h2 => absurd (by decide) h2)
  refine g_pure 2 (i' := 31) (lv' := [some (vR 800), some (vI (nI j)), none, none, none]) (st' := [vI 0, vI (nI j), vR 808]) rfl ?_
  refine g_ast rfl (g_A (a := 808) (kd := 1) (n := 8) rfl (by decide)) (by decide) (show nI j = nI j from (rfl : nI j = nI j)) (by omega) ?_
  refine g_setv (fun s3 es3 => ?_)
  have hSs3 : s3 801 = S := by rw [es3, mu_ne (by decide), hS]
  refine g_pure 2 (i' := 2) (lv' := [some (vR 800), some (vI (nI j + 1)), none, none, none]) (st' := []) rfl ?_
  refine gW_eq (lv' := [some (vR 800), some (vI (nI (j + 1))), none, none, none]) (st' := []) (by rw [(show (nI j + 1) = nI (j + 1) from ((g_add (rfl : nI j = nI j) (show (1 : Int32) = nI 1 from rfl))).trans (congrArg nI (by omega)))]) rfl rfl ?_
  exact o1 s3 es3

theorem b_268_e {X : Nat × (Nat → Int32)} {d : Nat} {p : Nat → Nat} {sg : Mg} {Q : am_R → Prop} {B : Nat} {S : Nat → Int32} (hI : Inv B S) (hS : sg 801 = S) (u_snS1 : sn S 1 ≤ 8)
    (o1 : gW X (d + 6) k_268 38 [some (vR 800), some (vI 0), some (vI 0), none, none] [] p sg Q) :
    gW X (d + 6) k_268 2 [some (vR 800), some (vI (nI (sn S 1))), none, none, none] [] p sg Q := by
  have b0 := hI.b0; have b1 := hI.b1; have b2 := hI.b2; have b3 := hI.b3; have b4 := hI.b4; have b5 := hI.b5; have b6 := hI.b6; have b7 := hI.b7; have b8 := hI.b8; have b9 := hI.b9; have b14 := hI.b14
  refine g_pure 2 (i' := 4) (lv' := [some (vR 800), some (vI (nI (sn S 1))), none, none, none]) (st' := [vR 800, vI (nI (sn S 1))]) rfl ?_
  refine g_cV1 rfl (args := [vR 800]) (rest := [vI (nI (sn S 1))]) rfl rfl rfl (s_203 (d := d + 5) hS) ?_
  refine g_if2 (i' := 34) (P := sn S 1 ≤ sn S 1) rfl rfl (g_geN (show nI (sn S 1) = nI (sn S 1) from (rfl : nI (sn S 1) = nI (sn S 1))) (show S 1 = nI (sn S 1) from (hI.c1)) (by omega) (by omega)) (fun _ => ?_) (fun h1 => absurd (Nat.le_refl _) h1)
  refine g_pure 4 (i' := 38) (lv' := [some (vR 800), some (vI 0), some (vI 0), none, none]) (st' := []) rfl ?_
  exact o1

theorem l_268_2 {X : Nat × (Nat → Int32)} {d : Nat} {p : Nat → Nat} {sg : Mg} {B : Nat} {S : Nat → Int32} (hI : Inv B S) (hS : sg 801 = S) {Q : am_R → Prop} (hA : InvA S)
    (x : ∀ s, (∀ c, c ≠ 807 → c ≠ 808 → s c = sg c) → (∀ i, i < sn S 1 → s 808 i = nI (tlF S i)) → gW X (d + 6) k_268 38 [some (vR 800), some (vI (nI 0)), some (vI (nI 0)), none, none] [] p s Q) :
    gW X (d + 6) k_268 2 [some (vR 800), some (vI (nI 0)), none, none, none] [] p sg Q := by
  have b0 := hI.b0; have b1 := hI.b1
  refine g_upI (P := fun j => ∀ s, (∀ c, c ≠ 807 → c ≠ 808 → s c = sg c) → (∀ i, i < j → s 808 i = nI (tlF S i)) → gW X (d + 6) k_268 2 [some (vR 800), some (vI (nI j)), none, none, none] [] p s Q) (I := fun _ => True) (n := sn S 1) (a := 0) (by omega) trivial (fun j _ hj _ ih s hs h7 => ?_) (fun _ s hs h7 => ?_) sg (fun _ _ _ => rfl) (fun i hi => absurd hi (Nat.not_lt_zero _))
  · have ih := ih trivial
    have hS2 : s 801 = S := (hs 801 (by decide) (by decide)).trans hS
    have fin : ∀ (s5 : Mg) (n : Nat), (∃ f, s5 = va_up s 807 f) → n = tlF S j → gW X (d + 6) k_268 2 [some (vR 800), some (vI (nI (j + 1))), none, none, none] [] p (mu s5 808 j (nI n)) Q := by
      intro s5 n h5 hn
      obtain ⟨f, rfl⟩ := h5
      refine ih _ (fun c c1 c2 => by rw [mu_ne c2, va_up_ne _ _ c1]; exact hs c c1 c2) (fun i hi => ?_)
      by_cases e : i = j
      · subst e; rw [mu_self, hn]
      · rw [mu_idx e, va_up_ne _ _ (by decide)]; exact h7 i (by omega)
    rcases (hI.per hj).1 with hw | hw
    · have hv := hw.1.1
      have hne : ¬ S (113 + 6 * j) = -1 := by rw [hv]; exact nI_m1 (by have := hw.1.2; omega)
      refine b_268_v hI hS2 hA (by omega) hj hw.1.2 hv (fun s3 h3 hb s6 e6 => ?_) (fun s3 h3 hb s7 e7 => ?_)
      · rw [e6, (hI.per hj).2.2.2.1]
        refine fin s3 _ h3 ?_
        unfold tlF
        rw [if_neg hne, if_neg (fun h9 => by have := (brd_gsm (sc := scf S j (sn S (113 + 6 * j)) (sn S 8)) hA (kd := 1) (by decide)).mpr h9; omega)]
      · rw [e7]
        refine fin s3 0 h3 ?_
        unfold tlF
        rw [if_neg hne, if_pos ((brd_gsm hA (by decide)).mp (by omega))]
    · refine b_268_x hI hS2 (by omega) hj hw.1 (fun s3 e3 => ?_)
      rw [e3]
      refine fin s 0 ⟨s 807, va_up_same.symm⟩ ?_
      unfold tlF
      rw [if_pos hw.1]
  · have hS2 : s 801 = S := (hs 801 (by decide) (by decide)).trans hS
    exact b_268_e hI hS2 (by omega) (x s hs h7)
