/-! PLAN: the call of the reference (made by wip/whole/gen89l.py) -/
theorem b_304_0 {X : Nat × (Nat → Int32)} {d : Nat} {p : Nat → Nat} {sg : Mg} {Q : am_R → Prop} {B : Nat} {S : Nat → Int32} (hI : Inv B S) (hS : sg 801 = S) {x : Int32} {y : Int32} {W : Prop} [Decidable W]
    (o1 : ∀ s1 : Mg, s1 = mu sg 800 0 0 → (¬ okx x (sn S 1)) → ∀ s3 : Mg, s3 = mu s1 800 0 (nI 1) → Q (gRv p s3 0))
    (o2 : ∀ s1 : Mg, s1 = mu sg 800 0 0 → ∀ n5 : Nat, x = nI n5 → n5 < sn S 1 → ∀ s7 : Mg, s7 = mu s1 800 28 0 → gW X (d + 11) k_304 19 [some (vR 800), some (vI (nI n5)), some (vI y), some (vI (if W then 1 else 0)), some (vI 0), some (vI 0), none] [] p s7 Q) :
    gW X (d + 11) k_304 0 [some (vR 800), some (vI x), some (vI y), some (vI (if W then 1 else 0)), none, none, none] [] p sg Q := by
  have b0 := hI.b0; have b1 := hI.b1; have b2 := hI.b2; have b3 := hI.b3; have b4 := hI.b4; have b5 := hI.b5; have b6 := hI.b6; have b7 := hI.b7; have b8 := hI.b8; have b9 := hI.b9; have b14 := hI.b14
  refine g_pure 2 (i' := 2) (lv' := [some (vR 800), some (vI x), some (vI y), some (vI (if W then 1 else 0)), none, none, none]) (st' := [vI 0, vR 800]) rfl ?_
  refine g_putI rfl (g_A (a := 800) (kd := 0) (n := 12) rfl (by decide)) ?_
  refine g_setv (fun s1 es1 => ?_)
  have hSs1 : s1 801 = S := by rw [es1, mu_ne (by decide), hS]
  refine g_pure 3 (i' := 6) (lv' := [some (vR 800), some (vI x), some (vI y), some (vI (if W then 1 else 0)), none, none, none]) (st' := [vI x, vR 800, vR 800]) rfl ?_
  refine g_cV1 rfl (args := [vR 800, vI x]) (rest := [vR 800]) rfl rfl rfl (s_237 (d := d + 9) hI hSs1) ?_
  refine g_pure 1 (i' := 8) (lv' := [some (vR 800), some (vI x), some (vI y), some (vI (if W then 1 else 0)), none, none, none]) (st' := [vI 1, vI (if ¬ okx x (sn S 1) then 1 else 0), vR 800]) rfl ?_
  by_cases h2 : ¬ okx x (sn S 1)
  · refine gW_eq (st' := [vI 1, vI 1, vR 800]) rfl (by rw [if_pos h2]) rfl ?_
    refine gW_eq (st' := [vI (nI 1), vI 1, vR 800]) rfl (by rw [(show (1 : Int32) = nI 1 from rfl)]) rfl ?_
    refine g_cV1 rfl (args := [vR 800, vI 1, vI (nI 1)]) (rest := []) rfl rfl rfl (s_227t (d := d + 10) (by omega)) ?_
    refine g_setv (fun s3 es3 => ?_)
    have hSs3 : s3 801 = S := by rw [es3, mu_ne (by decide), hSs1]
    refine g_if1 (i' := 12) (P := 1 = 0) rfl rfl (g_eqN (show 1 = nI 1 from (show (1 : Int32) = nI 1 from rfl)) (show 0 = nI 0 from (show (0 : Int32) = nI 0 from rfl)) (by omega) (by omega)) (fun h4 => absurd h4 (by omega)) (fun _ => ?_)
    refine g_pure 1 (i' := 11) (lv' := [some (vR 800), some (vI x), some (vI y), some (vI (if W then 1 else 0)), none, none, none]) (st' := [vI 0]) rfl ?_
    refine g_iret rfl ?_
    exact o1 s1 es1 h2 s3 es3
  · have h2 := Classical.not_not.mp h2
    refine gW_eq (st' := [vI 1, vI 0, vR 800]) rfl (by rw [if_neg (fun n9 => n9 h2)]) rfl ?_
    obtain ⟨n5, ln5, en5⟩ := okx_of h2
    subst en5
    refine gW_eq (st' := [vI (nI 1), vI 0, vR 800]) rfl (by rw [(show (1 : Int32) = nI 1 from rfl)]) rfl ?_
    refine g_cV1 rfl (args := [vR 800, vI 0, vI (nI 1)]) (rest := []) rfl rfl rfl (s_227f (d := d + 10) (by omega)) ?_
    refine g_if1 (i' := 12) (P := 0 = 0) rfl rfl (g_eqN (show 0 = nI 0 from (show (0 : Int32) = nI 0 from rfl)) (show 0 = nI 0 from (show (0 : Int32) = nI 0 from rfl)) (by omega) (by omega)) (fun _ => ?_) (fun h6 => absurd (by omega) h6)
    refine g_pure 2 (i' := 14) (lv' := [some (vR 800), some (vI (nI n5)), some (vI y), some (vI (if W then 1 else 0)), none, none, none]) (st' := [vI 0, vR 800]) rfl ?_
    refine g_putI rfl (g_A (a := 800) (kd := 0) (n := 12) rfl (by decide)) ?_
    refine g_setv (fun s7 es7 => ?_)
    have hSs7 : s7 801 = S := by rw [es7, mu_ne (by decide), hSs1]
    refine g_pure 4 (i' := 19) (lv' := [some (vR 800), some (vI (nI n5)), some (vI y), some (vI (if W then 1 else 0)), some (vI 0), some (vI 0), none]) (st' := []) rfl ?_
    exact o2 s1 es1 n5 rfl ln5 s7 es7

theorem b_304_19 {X : Nat × (Nat → Int32)} {d : Nat} {p : Nat → Nat} {sg : Mg} {Q : am_R → Prop} {B : Nat} {S : Nat → Int32} (hI : Inv B S) (hS : sg 801 = S) {np : Nat} (u_np : np ≤ 5) (kn_800_28 : sg 800 28 = nI np) {k : Nat} {y : Int32} {W : Prop} [Decidable W] {c : Nat} {j : Nat} (u_k : k ≤ 7) (u_c : c ≤ 8) (u_j : j ≤ 8)
    (o1 : (sn S 5 ≤ j) → gW X (d + 11) k_304 53 [some (vR 800), some (vI (nI k)), some (vI y), some (vI (if W then 1 else 0)), some (vI (nI c)), some (vI (nI j)), none] [] p sg Q)
    (o2 : (¬ (sn S 5 ≤ j)) → (¬ (((y >>> ((nI j) &&& 31)) &&& 1) = 1)) → gW X (d + 11) k_304 19 [some (vR 800), some (vI (nI k)), some (vI y), some (vI (if W then 1 else 0)), some (vI (nI c)), some (vI (nI (j + 1))), none] [] p sg Q)
    (o3 : (¬ (sn S 5 ≤ j)) → ((((y >>> ((nI j) &&& 31)) &&& 1) = 1)) → (¬ (dnP S j = true)) → (5 ≤ np) → gW X (d + 11) k_304 19 [some (vR 800), some (vI (nI k)), some (vI y), some (vI (if W then 1 else 0)), some (vI (nI (c + 1))), some (vI (nI (j + 1))), none] [] p sg Q)
    (o4 : (¬ (sn S 5 ≤ j)) → ((((y >>> ((nI j) &&& 31)) &&& 1) = 1)) → (¬ (dnP S j = true)) → (¬ (5 ≤ np)) → ∀ s5 : Mg, s5 = mu sg 817 np (nI j) → ∀ s6 : Mg, s6 = mu s5 800 28 (nI (np + 1)) → gW X (d + 11) k_304 19 [some (vR 800), some (vI (nI k)), some (vI y), some (vI (if W then 1 else 0)), some (vI (nI (c + 1))), some (vI (nI (j + 1))), none] [] p s6 Q)
    (o5 : (¬ (sn S 5 ≤ j)) → ((((y >>> ((nI j) &&& 31)) &&& 1) = 1)) → ((dnP S j = true)) → gW X (d + 11) k_304 19 [some (vR 800), some (vI (nI k)), some (vI y), some (vI (if W then 1 else 0)), some (vI (nI c)), some (vI (nI (j + 1))), none] [] p sg Q) :
    gW X (d + 11) k_304 19 [some (vR 800), some (vI (nI k)), some (vI y), some (vI (if W then 1 else 0)), some (vI (nI c)), some (vI (nI j)), none] [] p sg Q := by
  have b0 := hI.b0; have b1 := hI.b1; have b2 := hI.b2; have b3 := hI.b3; have b4 := hI.b4; have b5 := hI.b5; have b6 := hI.b6; have b7 := hI.b7; have b8 := hI.b8; have b9 := hI.b9; have b14 := hI.b14
  refine g_pure 4 (i' := 23) (lv' := [some (vR 800), some (vI (nI k)), some (vI y), some (vI (if W then 1 else 0)), some (vI (nI c)), some (vI (nI j)), none]) (st' := [vI 5, vR 801, vI (nI j)]) rfl ?_
  refine g_ald rfl (g_A (a := 801) (kd := 1) (n := 2407) rfl (by decide)) (by decide) (show 5 = nI 5 from (show (5 : Int32) = nI 5 from rfl)) (by decide) (show _ = S 5 from (congrFun hS 5)) ?_
  refine g_if2 (i' := 53) (P := sn S 5 ≤ j) rfl rfl (g_geN (show nI j = nI j from (rfl : nI j = nI j)) (show S 5 = nI (sn S 5) from (hI.c5)) (by omega) (by omega)) (fun h1 => ?_) (fun h1 => ?_)
  · exact o1 h1
  · refine g_pure 2 (i' := 27) (lv' := [some (vR 800), some (vI (nI k)), some (vI y), some (vI (if W then 1 else 0)), some (vI (nI c)), some (vI (nI j)), none]) (st' := [vI (nI j), vI y]) rfl ?_
    refine g_cS1 rfl (args := [vI y, vI (nI j)]) (rest := []) rfl rfl rfl (s_201 (d := d + 10) ) ?_
    refine g_if1 (i' := 51) (P := ¬ (((y >>> ((nI j) &&& 31)) &&& 1) = 1)) rfl rfl g_eqB (fun h2 => ?_) (fun h2 => ?_)
    · refine g_pure 2 (i' := 19) (lv' := [some (vR 800), some (vI (nI k)), some (vI y), some (vI (if W then 1 else 0)), some (vI (nI c)), some (vI (nI j + 1)), none]) (st' := []) rfl ?_
      refine gW_eq (lv' := [some (vR 800), some (vI (nI k)), some (vI y), some (vI (if W then 1 else 0)), some (vI (nI c)), some (vI (nI (j + 1))), none]) (st' := []) (by rw [(show (nI j + 1) = nI (j + 1) from ((g_add (rfl : nI j = nI j) (show (1 : Int32) = nI 1 from rfl))).trans (congrArg nI (by omega)))]) rfl rfl ?_
      exact o2 h1 h2
    · have h2 := Classical.not_not.mp h2
      refine g_pure 2 (i' := 31) (lv' := [some (vR 800), some (vI (nI k)), some (vI y), some (vI (if W then 1 else 0)), some (vI (nI c)), some (vI (nI j)), none]) (st' := [vI (nI j), vR 800]) rfl ?_
      refine g_cV1 rfl (args := [vR 800, vI (nI j)]) (rest := []) rfl rfl rfl (s_258 (d := d + 9) hI hS (by omega)) ?_
      refine g_if1 (i' := 34) (P := ¬ (dnP S j = true)) rfl rfl g_eqB (fun h3 => ?_) (fun h3 => ?_)
      · refine g_pure 1 (i' := 35) (lv' := [some (vR 800), some (vI (nI k)), some (vI y), some (vI (if W then 1 else 0)), some (vI (nI c)), some (vI (nI j)), none]) (st' := [vR 800]) rfl ?_
        refine g_getI rfl (g_A (a := 800) (kd := 0) (n := 12) rfl (by decide)) (show _ = nI np from kn_800_28) ?_
        refine g_pure 1 (i' := 37) (lv' := [some (vR 800), some (vI (nI k)), some (vI y), some (vI (if W then 1 else 0)), some (vI (nI c)), some (vI (nI j)), none]) (st' := [vI 5, vI (nI np)]) rfl ?_
        refine g_if2 (i' := 50) (P := 5 ≤ np) rfl rfl (g_geN (show nI np = nI np from (rfl : nI np = nI np)) (show 5 = nI 5 from (show (5 : Int32) = nI 5 from rfl)) (by omega) (by omega)) (fun h4 => ?_) (fun h4 => ?_)
        · refine g_pure 3 (i' := 19) (lv' := [some (vR 800), some (vI (nI k)), some (vI y), some (vI (if W then 1 else 0)), some (vI (nI c + 1)), some (vI (nI j + 1)), none]) (st' := []) rfl ?_
          refine gW_eq (lv' := [some (vR 800), some (vI (nI k)), some (vI y), some (vI (if W then 1 else 0)), some (vI (nI (c + 1))), some (vI (nI (j + 1))), none]) (st' := []) (by rw [(show (nI c + 1) = nI (c + 1) from ((g_add (rfl : nI c = nI c) (show (1 : Int32) = nI 1 from rfl))).trans (congrArg nI (by omega))), (show (nI j + 1) = nI (j + 1) from ((g_add (rfl : nI j = nI j) (show (1 : Int32) = nI 1 from rfl))).trans (congrArg nI (by omega)))]) rfl rfl ?_
          exact o3 h1 h2 h3 h4
        · refine g_pure 3 (i' := 41) (lv' := [some (vR 800), some (vI (nI k)), some (vI y), some (vI (if W then 1 else 0)), some (vI (nI c)), some (vI (nI j)), none]) (st' := [vR 800, vR 817]) rfl ?_
          refine g_getI rfl (g_A (a := 800) (kd := 0) (n := 12) rfl (by decide)) (show _ = nI np from kn_800_28) ?_
          refine g_pure 1 (i' := 43) (lv' := [some (vR 800), some (vI (nI k)), some (vI y), some (vI (if W then 1 else 0)), some (vI (nI c)), some (vI (nI j)), none]) (st' := [vI (nI j), vI (nI np), vR 817]) rfl ?_
          refine g_ast rfl (g_A (a := 817) (kd := 1) (n := 5) rfl (by decide)) (by decide) (show nI np = nI np from (rfl : nI np = nI np)) (by omega) ?_
          refine g_setv (fun s5 es5 => ?_)
          have kns5_800_28 : s5 800 28 = nI np := by rw [es5, mu_ne (by decide)]; exact kn_800_28
          have hSs5 : s5 801 = S := by rw [es5, mu_ne (by decide), hS]
          refine g_pure 2 (i' := 46) (lv' := [some (vR 800), some (vI (nI k)), some (vI y), some (vI (if W then 1 else 0)), some (vI (nI c)), some (vI (nI j)), none]) (st' := [vR 800, vR 800]) rfl ?_
          refine g_getI rfl (g_A (a := 800) (kd := 0) (n := 12) rfl (by decide)) (show _ = nI np from kns5_800_28) ?_
          refine g_pure 2 (i' := 49) (lv' := [some (vR 800), some (vI (nI k)), some (vI y), some (vI (if W then 1 else 0)), some (vI (nI c)), some (vI (nI j)), none]) (st' := [vI (nI np + 1), vR 800]) rfl ?_
          refine gW_eq (lv' := [some (vR 800), some (vI (nI k)), some (vI y), some (vI (if W then 1 else 0)), some (vI (nI c)), some (vI (nI j)), none]) (st' := [vI (nI (np + 1)), vR 800]) rfl (by rw [(show (nI np + 1) = nI (np + 1) from ((g_add (rfl : nI np = nI np) (show (1 : Int32) = nI 1 from rfl))).trans (congrArg nI (by omega)))]) rfl ?_
          refine g_putI rfl (g_A (a := 800) (kd := 0) (n := 12) rfl (by decide)) ?_
          refine g_setv (fun s6 es6 => ?_)
          have kns6_800_28 : s6 800 28 = nI (np + 1) := by rw [es6]; exact mu_self.trans ((rfl : nI (np + 1) = nI (np + 1)))
          have hSs6 : s6 801 = S := by rw [es6, mu_ne (by decide), hSs5]
          refine g_pure 3 (i' := 19) (lv' := [some (vR 800), some (vI (nI k)), some (vI y), some (vI (if W then 1 else 0)), some (vI (nI c + 1)), some (vI (nI j + 1)), none]) (st' := []) rfl ?_
          refine gW_eq (lv' := [some (vR 800), some (vI (nI k)), some (vI y), some (vI (if W then 1 else 0)), some (vI (nI (c + 1))), some (vI (nI (j + 1))), none]) (st' := []) (by rw [(show (nI c + 1) = nI (c + 1) from ((g_add (rfl : nI c = nI c) (show (1 : Int32) = nI 1 from rfl))).trans (congrArg nI (by omega))), (show (nI j + 1) = nI (j + 1) from ((g_add (rfl : nI j = nI j) (show (1 : Int32) = nI 1 from rfl))).trans (congrArg nI (by omega)))]) rfl rfl ?_
          exact o4 h1 h2 h3 h4 s5 es5 s6 es6
      · have h3 := Classical.not_not.mp h3
        refine g_pure 3 (i' := 19) (lv' := [some (vR 800), some (vI (nI k)), some (vI y), some (vI (if W then 1 else 0)), some (vI (nI c)), some (vI (nI j + 1)), none]) (st' := []) rfl ?_
        refine gW_eq (lv' := [some (vR 800), some (vI (nI k)), some (vI y), some (vI (if W then 1 else 0)), some (vI (nI c)), some (vI (nI (j + 1))), none]) (st' := []) (by rw [(show (nI j + 1) = nI (j + 1) from ((g_add (rfl : nI j = nI j) (show (1 : Int32) = nI 1 from rfl))).trans (congrArg nI (by omega)))]) rfl rfl ?_
        exact o5 h1 h2 h3

theorem b_304_53 {X : Nat × (Nat → Int32)} {d : Nat} {p : Nat → Nat} {sg : Mg} {Q : am_R → Prop} {B : Nat} {S : Nat → Int32} (hI : Inv B S) (hS : sg 801 = S) {k : Nat} {y : Int32} {W : Prop} [Decidable W] {c : Nat} {z5 : Option AV} {z6 : Option AV} (u_k : k ≤ 7) (u_c : c ≤ 8)
    (o1 : (c ≤ 5) → (¬ c = 0) → gW X (d + 11) k_304 67 [some (vR 800), some (vI (nI k)), some (vI y), some (vI (if W then 1 else 0)), some (vI (nI c)), z5, z6] [] p sg Q)
    (o2 : (c ≤ 5) → (c = 0) → (¬ W) → Q (gRv p sg (S 8)))
    (o3 : (c ≤ 5) → (c = 0) → (W) → Q (gRv p sg (-1)))
    (o4 : (¬ (c ≤ 5)) → Q (gRv p sg (-3))) :
    gW X (d + 11) k_304 53 [some (vR 800), some (vI (nI k)), some (vI y), some (vI (if W then 1 else 0)), some (vI (nI c)), z5, z6] [] p sg Q := by
  have b0 := hI.b0; have b1 := hI.b1; have b2 := hI.b2; have b3 := hI.b3; have b4 := hI.b4; have b5 := hI.b5; have b6 := hI.b6; have b7 := hI.b7; have b8 := hI.b8; have b9 := hI.b9; have b14 := hI.b14
  refine g_pure 2 (i' := 55) (lv' := [some (vR 800), some (vI (nI k)), some (vI y), some (vI (if W then 1 else 0)), some (vI (nI c)), z5, z6]) (st' := [vI 5, vI (nI c)]) rfl ?_
  refine g_if2 (i' := 58) (P := c ≤ 5) rfl rfl (g_leN (show nI c = nI c from (rfl : nI c = nI c)) (show 5 = nI 5 from (show (5 : Int32) = nI 5 from rfl)) (by omega) (by omega)) (fun h1 => ?_) (fun h1 => ?_)
  · refine g_pure 1 (i' := 59) (lv' := [some (vR 800), some (vI (nI k)), some (vI y), some (vI (if W then 1 else 0)), some (vI (nI c)), z5, z6]) (st' := [vI (nI c)]) rfl ?_
    refine g_if1 (i' := 67) (P := ¬ c = 0) rfl rfl (g_neN (show nI c = nI c from (rfl : nI c = nI c)) (show 0 = nI 0 from (show (0 : Int32) = nI 0 from rfl)) (by omega) (by omega)) (fun h2 => ?_) (fun h2 => ?_)
    · exact o1 h1 h2
    · have h2 := Classical.not_not.mp h2
      refine g_pure 1 (i' := 61) (lv' := [some (vR 800), some (vI (nI k)), some (vI y), some (vI (if W then 1 else 0)), some (vI (nI c)), z5, z6]) (st' := [vI (if W then 1 else 0)]) rfl ?_
      refine g_if1 (i' := 64) (P := ¬ W) rfl rfl g_eqB (fun h3 => ?_) (fun h3 => ?_)
      · refine g_pure 1 (i' := 65) (lv' := [some (vR 800), some (vI (nI k)), some (vI y), some (vI (if W then 1 else 0)), some (vI (nI c)), z5, z6]) (st' := [vR 800]) rfl ?_
        refine g_cV1 rfl (args := [vR 800]) (rest := []) rfl rfl rfl (s_248 (d := d + 10) hS) ?_
        refine g_iret rfl ?_
        exact o2 h1 h2 h3
      · have h3 := Classical.not_not.mp h3
        refine g_pure 2 (i' := 66) (lv' := [some (vR 800), some (vI (nI k)), some (vI y), some (vI (if W then 1 else 0)), some (vI (nI c)), z5, z6]) (st' := [vI (-1)]) rfl ?_
        refine g_iret rfl ?_
        exact o3 h1 h2 h3
  · refine g_pure 1 (i' := 57) (lv' := [some (vR 800), some (vI (nI k)), some (vI y), some (vI (if W then 1 else 0)), some (vI (nI c)), z5, z6]) (st' := [vI (-3)]) rfl ?_
    refine g_iret rfl ?_
    exact o4 h1

theorem b_304_72 {X : Nat × (Nat → Int32)} {d : Nat} {p : Nat → Nat} {sg : Mg} {Q : am_R → Prop} {B : Nat} {S : Nat → Int32} (hI : Inv B S) (hS : sg 801 = S) {k : Nat} {y : Int32} {W : Prop} [Decidable W] {c : Nat} {q : Int32} {z6 : Option AV} (u_k : k ≤ 7) (u_c : c ≤ 8)
    (o1 : (q < 0) → (0 ≤ q) → Q (gRv p sg (S 8 + q)))
    (o2 : (q < 0) → (¬ (0 ≤ q)) → Q (gRv p sg (-1)))
    (o3 : (¬ (q < 0)) → (W) → gW X (d + 11) k_304 85 [some (vR 800), some (vI (nI k)), some (vI y), some (vI (if W then 1 else 0)), some (vI (nI c)), some (vI q), z6] [] p sg Q)
    (o4 : (¬ (q < 0)) → (¬ W) → (0 ≤ q) → Q (gRv p sg (S 8 + q)))
    (o5 : (¬ (q < 0)) → (¬ W) → (¬ (0 ≤ q)) → Q (gRv p sg (-1))) :
    gW X (d + 11) k_304 72 [some (vR 800), some (vI (nI k)), some (vI y), some (vI (if W then 1 else 0)), some (vI (nI c)), some (vI q), z6] [] p sg Q := by
  have b0 := hI.b0; have b1 := hI.b1; have b2 := hI.b2; have b3 := hI.b3; have b4 := hI.b4; have b5 := hI.b5; have b6 := hI.b6; have b7 := hI.b7; have b8 := hI.b8; have b9 := hI.b9; have b14 := hI.b14
  refine g_pure 1 (i' := 73) (lv' := [some (vR 800), some (vI (nI k)), some (vI y), some (vI (if W then 1 else 0)), some (vI (nI c)), some (vI q), z6]) (st' := [vI q]) rfl ?_
  refine g_if1 (i' := 76) (P := q < 0) rfl rfl Iff.rfl (fun h1 => ?_) (fun h1 => ?_)
  · refine g_pure 1 (i' := 77) (lv' := [some (vR 800), some (vI (nI k)), some (vI y), some (vI (if W then 1 else 0)), some (vI (nI c)), some (vI q), z6]) (st' := [vI q]) rfl ?_
    refine g_if1 (i' := 80) (P := 0 ≤ q) rfl rfl Iff.rfl (fun h2 => ?_) (fun h2 => ?_)
    · refine g_pure 1 (i' := 81) (lv' := [some (vR 800), some (vI (nI k)), some (vI y), some (vI (if W then 1 else 0)), some (vI (nI c)), some (vI q), z6]) (st' := [vR 800]) rfl ?_
      refine g_cV1 rfl (args := [vR 800]) (rest := []) rfl rfl rfl (s_248 (d := d + 10) hS) ?_
      refine g_pure 2 (i' := 84) (lv' := [some (vR 800), some (vI (nI k)), some (vI y), some (vI (if W then 1 else 0)), some (vI (nI c)), some (vI q), z6]) (st' := [vI (S 8 + q)]) rfl ?_
      refine g_iret rfl ?_
      exact o1 h1 h2
    · refine g_pure 2 (i' := 84) (lv' := [some (vR 800), some (vI (nI k)), some (vI y), some (vI (if W then 1 else 0)), some (vI (nI c)), some (vI q), z6]) (st' := [vI (-1)]) rfl ?_
      refine g_iret rfl ?_
      exact o2 h1 h2
  · refine g_pure 1 (i' := 75) (lv' := [some (vR 800), some (vI (nI k)), some (vI y), some (vI (if W then 1 else 0)), some (vI (nI c)), some (vI q), z6]) (st' := [vI (if W then 1 else 0)]) rfl ?_
    refine g_if1 (i' := 85) (P := W) rfl rfl g_neB (fun h3 => ?_) (fun h3 => ?_)
    · exact o3 h1 h3
    · refine g_pure 1 (i' := 77) (lv' := [some (vR 800), some (vI (nI k)), some (vI y), some (vI (if W then 1 else 0)), some (vI (nI c)), some (vI q), z6]) (st' := [vI q]) rfl ?_
      refine g_if1 (i' := 80) (P := 0 ≤ q) rfl rfl Iff.rfl (fun h4 => ?_) (fun h4 => ?_)
      · refine g_pure 1 (i' := 81) (lv' := [some (vR 800), some (vI (nI k)), some (vI y), some (vI (if W then 1 else 0)), some (vI (nI c)), some (vI q), z6]) (st' := [vR 800]) rfl ?_
        refine g_cV1 rfl (args := [vR 800]) (rest := []) rfl rfl rfl (s_248 (d := d + 10) hS) ?_
        refine g_pure 2 (i' := 84) (lv' := [some (vR 800), some (vI (nI k)), some (vI y), some (vI (if W then 1 else 0)), some (vI (nI c)), some (vI q), z6]) (st' := [vI (S 8 + q)]) rfl ?_
        refine g_iret rfl ?_
        exact o4 h1 h3 h4
      · refine g_pure 2 (i' := 84) (lv' := [some (vR 800), some (vI (nI k)), some (vI y), some (vI (if W then 1 else 0)), some (vI (nI c)), some (vI q), z6]) (st' := [vI (-1)]) rfl ?_
        refine g_iret rfl ?_
        exact o5 h1 h3 h4

theorem b_304_87 {X : Nat × (Nat → Int32)} {d : Nat} {p : Nat → Nat} {sg : Mg} {Q : am_R → Prop} {B : Nat} {S : Nat → Int32} (hI : Inv B S) (hS : sg 801 = S) {k : Nat} {y : Int32} {W : Prop} [Decidable W] {c : Nat} {q : Int32} {i : Nat} (u_k : k ≤ 7) (u_c : c ≤ 8) (u_i : i ≤ 4)
    (o1 : gW X (d + 11) k_304 93 [some (vR 800), some (vI (nI k)), some (vI y), some (vI (if W then 1 else 0)), some (vI (nI c)), some (vI q), some (vI (nI i))] [vI (sg 817 i), vI (nI k), vR 800] p sg Q) :
    gW X (d + 11) k_304 87 [some (vR 800), some (vI (nI k)), some (vI y), some (vI (if W then 1 else 0)), some (vI (nI c)), some (vI q), some (vI (nI i))] [] p sg Q := by
  have b0 := hI.b0; have b1 := hI.b1; have b2 := hI.b2; have b3 := hI.b3; have b4 := hI.b4; have b5 := hI.b5; have b6 := hI.b6; have b7 := hI.b7; have b8 := hI.b8; have b9 := hI.b9; have b14 := hI.b14
  refine g_pure 5 (i' := 92) (lv' := [some (vR 800), some (vI (nI k)), some (vI y), some (vI (if W then 1 else 0)), some (vI (nI c)), some (vI q), some (vI (nI i))]) (st' := [vI (nI i), vR 817, vI (nI k), vR 800]) rfl ?_
  refine g_ald rfl (g_A (a := 817) (kd := 1) (n := 5) rfl (by decide)) (by decide) (show nI i = nI i from (rfl : nI i = nI i)) (by omega) (show _ = sg 817 i from rfl) ?_
  exact o1

theorem b_304_96 {X : Nat × (Nat → Int32)} {d : Nat} {p : Nat → Nat} {sg : Mg} {Q : am_R → Prop} {B : Nat} {S : Nat → Int32} (hI : Inv B S) (hS : sg 801 = S) {k : Nat} {y : Int32} {W : Prop} [Decidable W] {c : Nat} {q : Int32} {i : Nat} (u_k : k ≤ 7) (u_c : c ≤ 8) (u_i : i ≤ 4)
    (o1 : gW X (d + 11) k_304 87 [some (vR 800), some (vI (nI k)), some (vI y), some (vI (if W then 1 else 0)), some (vI (nI c)), some (vI q), some (vI (nI (i + 1)))] [] p sg Q) :
    gW X (d + 11) k_304 96 [some (vR 800), some (vI (nI k)), some (vI y), some (vI (if W then 1 else 0)), some (vI (nI c)), some (vI q), some (vI (nI i))] [] p sg Q := by
  have b0 := hI.b0; have b1 := hI.b1; have b2 := hI.b2; have b3 := hI.b3; have b4 := hI.b4; have b5 := hI.b5; have b6 := hI.b6; have b7 := hI.b7; have b8 := hI.b8; have b9 := hI.b9; have b14 := hI.b14
  refine g_pure 2 (i' := 87) (lv' := [some (vR 800), some (vI (nI k)), some (vI y), some (vI (if W then 1 else 0)), some (vI (nI c)), some (vI q), some (vI (nI i + 1))]) (st' := []) rfl ?_
  refine gW_eq (lv' := [some (vR 800), some (vI (nI k)), some (vI y), some (vI (if W then 1 else 0)), some (vI (nI c)), some (vI q), some (vI (nI (i + 1)))]) (st' := []) (by rw [(show (nI i + 1) = nI (i + 1) from ((g_add (rfl : nI i = nI i) (show (1 : Int32) = nI 1 from rfl))).trans (congrArg nI (by omega)))]) rfl rfl ?_
  exact o1

theorem b_304_98 {X : Nat × (Nat → Int32)} {d : Nat} {p : Nat → Nat} {sg : Mg} {Q : am_R → Prop} {B : Nat} {S : Nat → Int32} (hI : Inv B S) (hS : sg 801 = S) {k : Nat} {y : Int32} {W : Prop} [Decidable W] {c : Nat} {q : Int32} {i : Nat} (u_k : k ≤ 7) (u_c : c ≤ 8) (u_i : i ≤ 4)
    (o1 : Q (gRv p sg (sg 817 i))) :
    gW X (d + 11) k_304 98 [some (vR 800), some (vI (nI k)), some (vI y), some (vI (if W then 1 else 0)), some (vI (nI c)), some (vI q), some (vI (nI i))] [] p sg Q := by
  have b0 := hI.b0; have b1 := hI.b1; have b2 := hI.b2; have b3 := hI.b3; have b4 := hI.b4; have b5 := hI.b5; have b6 := hI.b6; have b7 := hI.b7; have b8 := hI.b8; have b9 := hI.b9; have b14 := hI.b14
  refine g_pure 3 (i' := 101) (lv' := [some (vR 800), some (vI (nI k)), some (vI y), some (vI (if W then 1 else 0)), some (vI (nI c)), some (vI q), some (vI (nI i))]) (st' := [vI (nI i), vR 817]) rfl ?_
  refine g_ald rfl (g_A (a := 817) (kd := 1) (n := 5) rfl (by decide)) (by decide) (show nI i = nI i from (rfl : nI i = nI i)) (by omega) (show _ = sg 817 i from rfl) ?_
  refine g_iret rfl ?_
  exact o1

theorem alF_any (q : Nat) : alF (-1) q = true := decide_eq_true (Or.inl (by decide))
theorem alF_one {q j : Nat} (hq : q < 8) (hj : j < 8) : alF (nI j) q = true ↔ q = j := by
  unfold alF
  rw [decide_eq_true_iff, nI_eq (by omega) (by omega)]
  exact ⟨fun h => h.resolve_left (Int32.not_lt.mpr (nI_pos' (by omega))), Or.inr⟩
theorem plO_bit {S : Nat → Int32} {y : Int32} {q : Nat} : (plO S y).testBit q = true ↔ q < sn S 5 ∧ opn S y q = true := by
  unfold plO
  rw [bset_bit, Bool.and_eq_true, decide_eq_true_iff]
theorem plO_ok {S : Nat → Int32} {y : Int32} : OK S (plO S y) := fun q h => by
  have h := (plO_bit.mp h).2
  unfold opn at h
  exact (of_decide_eq_true h).2
section
variable {B : Nat} {S : Nat → Int32} {k np O T : Nat} {pk : Nat → Nat}
/-- any task may be the first -/
theorem any_ch (hI : Inv B S) (h : PK S O np pk) (hO : OK S O) (ha : aaP S O (sn S 5)) (h0 : ¬ O = 0) (h8 : O < 256) (h5 : popc 9 O ≤ 5) : PFR S k np pk (alF (-1)) T ↔ CH S k 5 O (hmN S k) (stN S k) (stN S k) T := by
  rw [PFR.fin h hO ha, FIN.iff hI h0 h8 h5, CH.nz h0]
  exact ⟨fun ⟨q, _, g⟩ => ⟨q, g⟩, fun ⟨q, g⟩ => ⟨q, alF_any q, g⟩⟩
theorem one_ch (hI : Inv B S) (h : PK S O np pk) (hO : OK S O) (ha : aaP S O (sn S 5)) (h0 : ¬ O = 0) (h8 : O < 256) (h5 : popc 9 O ≤ 5) {j : Nat} (hj : j < 8) : PFR S k np pk (alF (nI j)) T ↔ CHq S k 4 O (hmN S k) (stN S k) (stN S k) j T := by
  have b5 := hI.b5
  rw [PFR.fin h hO ha, FIN.iff hI h0 h8 h5]
  constructor
  · intro ⟨q, g1, g2⟩
    have hq : q < 8 := by obtain ⟨tm, g3, _⟩ := g2; have := g3.1; omega
    rw [← (alF_one hq hj).mp g1]
    exact g2
  · intro g
    exact ⟨j, (alF_one hj hj).mpr rfl, g⟩
theorem pb_any (hI : Inv B S) (h : PK S O np pk) (hO : OK S O) (ha : aaP S O (sn S 5)) (h0 : ¬ O = 0) (h8 : O < 256) (h5 : popc 9 O ≤ 5) : pbT S k np pk (-1) = plT S k O := by
  have : pbP S k np pk (-1) = plP S k O := funext (fun t => by
    rw [Bool.eq_iff_iff, pbP_t, plP_t]
    exact any_ch hI h hO ha h0 h8 h5)
  unfold pbT plT
  rw [this]
theorem pb_none (h : PK S O np pk) (ha : ¬ aaP S O (sn S 5)) {al : Int32} : ¬ pbT S k np pk al < 401 := pbT_no (fun t _ => pbP_f.mpr (PFR.no h ha))
theorem pl_fits (h : plT S k O < 401) : CH S k 5 O (hmN S k) (stN S k) (stN S k) (sn S 8 + plT S k O) := plP_t.mp ((fnd_spec (plP S k O) 401 0).2.2.2 (by unfold plT at h; omega))
theorem pl_least {t : Nat} (h : t < plT S k O) : ¬ CH S k 5 O (hmN S k) (stN S k) (stN S k) (sn S 8 + t) := plP_f.mp ((fnd_spec (plP S k O) 401 0).2.2.1 t (Nat.zero_le _) h)
/-- a first task fits if its own least is the least -/
theorem pb_one (hI : Inv B S) (h : PK S O np pk) (hO : OK S O) (ha : aaP S O (sn S 5)) (h0 : ¬ O = 0) (h8 : O < 256) (h5 : popc 9 O ≤ 5) (hT : plT S k O < 401) {j : Nat} (hj : j < 8) : (if pbT S k np pk (nI j) < 401 then nI (pbT S k np pk (nI j)) else -1) = nI (plT S k O) ↔ CHq S k 4 O (hmN S k) (stN S k) (stN S k) j (sn S 8 + plT S k O) := by
  constructor
  · intro g
    by_cases c : pbT S k np pk (nI j) < 401
    · rw [if_pos c, nI_eq (by omega) (by omega)] at g
      have := (fnd_spec (pbP S k np pk (nI j)) 401 0).2.2.2 (by unfold pbT at c; omega)
      have := (one_ch hI h hO ha h0 h8 h5 hj).mp (pbP_t.mp this)
      rw [← g]
      exact this
    · rw [if_neg c] at g
      exact absurd g.symm (nI_m1 (by omega))
  · intro g
    have : pbT S k np pk (nI j) = plT S k O := pbT_at (by omega) (pbP_t.mpr ((one_ch hI h hO ha h0 h8 h5 hj).mpr g)) (fun t ht => pbP_f.mpr (fun g2 => pl_least ht ((CH.nz h0).mpr ⟨j, (one_ch hI h hO ha h0 h8 h5 hj).mp g2⟩)))
    rw [this, if_pos hT]
end
/-- what planning may write -/
def PF (sg s : Mg) : Prop := (∀ c, c ≠ 800 → c ≠ 807 → c ≠ 817 → c ≠ 818 → s c = sg c) ∧ (∀ k, k ≠ 0 → k ≠ 28 → s 800 k = sg 800 k) ∧ s 800 0 = 0
theorem PF.sp {sg s m : Mg} (h : PF sg s) (g : SP s m) : PF sg m := ⟨fun c h1 h2 h3 h4 => (g c h2 h4).trans (h.1 c h1 h2 h3 h4), fun k h1 h2 => by rw [g 800 (by decide) (by decide)]; exact h.2.1 k h1 h2, by rw [g 800 (by decide) (by decide)]; exact h.2.2⟩
theorem PF.rm {A : AS} {sg s : Mg} (hR : RM A sg) (h : PF sg s) : RM A s := hR.ext (fun c hc => h.1 c (by omega) (by omega) (by omega) (by omega)) (fun k hk => h.2.1 k (by omega) (by omega))
/-- the tasks below j that are planned -/
def plJ (S : Nat → Int32) (y : Int32) (np c j : Nat) (pk : Nat → Nat) (m : Mg) : Prop := m 800 28 = nI np ∧ np ≤ 5 ∧ np ≤ c ∧ (np < 5 → np = c) ∧ c = cnt (opn S y) j ∧ (∀ i, i < np → m 817 i = nI (pk i)) ∧ (∀ i, i < np → pk i < j ∧ opn S y (pk i) = true) ∧ (∀ i i', i < i' → i' < np → pk i < pk i') ∧ (np = c → ∀ q, q < j → opn S y q = true → ∃ i, i < np ∧ pk i = q)
theorem plJ.no {S : Nat → Int32} {y : Int32} {np c j : Nat} {pk : Nat → Nat} {m : Mg} (h : plJ S y np c j pk m) (ho : opn S y j = false) : plJ S y np c (j + 1) pk m := by
  obtain ⟨h1, h2, h3, h4, h5, h6, h7, h8, h9⟩ := h
  refine ⟨h1, h2, h3, h4, ?_, h6, fun i hi => ⟨by have := (h7 i hi).1; omega, (h7 i hi).2⟩, h8, fun e q hq hb => ?_⟩
  · show c = cnt (opn S y) j + if opn S y j = true then 1 else 0
    rw [ho]; exact h5
  · by_cases e2 : q = j
    · subst e2; rw [ho] at hb; cases hb
    · exact h9 e q (by omega) hb
theorem plJ.full {S : Nat → Int32} {y : Int32} {np c j : Nat} {pk : Nat → Nat} {m : Mg} (h : plJ S y np c j pk m) (ho : opn S y j = true) (hn : 5 ≤ np) : plJ S y np (c + 1) (j + 1) pk m := by
  obtain ⟨h1, h2, h3, h4, h5, h6, h7, h8, h9⟩ := h
  refine ⟨h1, h2, by omega, fun h => by omega, ?_, h6, fun i hi => ⟨by have := (h7 i hi).1; omega, (h7 i hi).2⟩, h8, fun e => by omega⟩
  show c + 1 = cnt (opn S y) j + if opn S y j = true then 1 else 0
  rw [ho, ← h5]; rfl
theorem plJ.add {S : Nat → Int32} {y : Int32} {np c j : Nat} {pk pk2 : Nat → Nat} (pA : pk2 np = j) (pB : ∀ i, ¬ i = np → pk2 i = pk i) {m s5 s6 : Mg} (h : plJ S y np c j pk m) (ho : opn S y j = true) (hn : ¬ 5 ≤ np) (e5 : s5 = mu m 817 np (nI j)) (e6 : s6 = mu s5 800 28 (nI (np + 1))) : plJ S y (np + 1) (c + 1) (j + 1) pk2 s6 := by
  obtain ⟨h1, h2, h3, h4, h5, h6, h7, h8, h9⟩ := h
  refine ⟨by rw [e6, mu_self], by omega, by omega, fun h => by have := h4 (by omega); omega, ?_, fun i hi => ?_, fun i hi => ?_, fun i i' hi hi' => ?_, fun e q hq hb => ?_⟩
  · show c + 1 = cnt (opn S y) j + if opn S y j = true then 1 else 0
    rw [ho, ← h5]; rfl
  · rw [e6, mu_ne (by decide), e5]
    by_cases e : i = np
    · subst e; rw [mu_self, pA]
    · rw [mu_idx e, pB i e]; exact h6 i (by omega)
  · by_cases e : i = np
    · rw [e, pA]; exact ⟨by omega, ho⟩
    · rw [pB i e]
      have := h7 i (by omega)
      exact ⟨by omega, this.2⟩
  · rw [pB i (by omega)]
    by_cases e : i' = np
    · rw [e, pA]; exact (h7 i (by omega)).1
    · rw [pB i' e]; exact h8 i i' hi (by omega)
  · by_cases e2 : q = j
    · exact ⟨np, by omega, by rw [pA]; exact e2.symm⟩
    · obtain ⟨i, hi, e3⟩ := h9 (by omega) q (by omega) hb
      exact ⟨i, by omega, by rw [pB i (by omega)]; exact e3⟩
/-- the tasks are numbered -/
theorem l_304_19 {X : Nat × (Nat → Int32)} {d : Nat} {p : Nat → Nat} {sg : Mg} {B : Nat} {S : Nat → Int32} (hI : Inv B S) (hS : sg 801 = S) {Q : am_R → Prop} {k : Nat} {y : Int32} {W : Prop} [Decidable W] (hk : k ≤ 7) (h0 : sg 800 28 = nI 0) (h00 : sg 800 0 = 0)
    (x : ∀ m np c pk, PF sg m → plJ S y np c (sn S 5) pk m → c ≤ 8 → gW X (d + 11) k_304 53 [some (vR 800), some (vI (nI k)), some (vI y), some (vI (if W then 1 else 0)), some (vI (nI c)), some (vI (nI (sn S 5))), none] [] p m Q) :
    gW X (d + 11) k_304 19 [some (vR 800), some (vI (nI k)), some (vI y), some (vI (if W then 1 else 0)), some (vI 0), some (vI 0), none] [] p sg Q := by
  have b5 := hI.b5
  have key := g_upI (P := fun j => ∀ m np c pk, PF sg m → plJ S y np c j pk m → gW X (d + 11) k_304 19 [some (vR 800), some (vI (nI k)), some (vI y), some (vI (if W then 1 else 0)), some (vI (nI c)), some (vI (nI j)), none] [] p m Q) (I := fun _ => True) (n := sn S 5) (a := 0) (by omega) trivial ?_ ?_
  · exact key sg 0 0 (fun i => i) ⟨fun _ _ _ _ _ => rfl, fun _ _ _ => rfl, h00⟩ ⟨h0, by omega, by omega, fun _ => rfl, rfl, fun i hi => absurd hi (Nat.not_lt_zero _), fun i hi => absurd hi (Nat.not_lt_zero _), fun i i' _ hi => absurd hi (Nat.not_lt_zero _), fun _ q hq => absurd hq (Nat.not_lt_zero _)⟩
  · intro j _ hj _ ih m np c pk hm hJ
    have ih := ih trivial
    have hS2 : m 801 = S := by rw [hm.1 801 (by decide) (by decide) (by decide) (by decide)]; exact hS
    have hc : c ≤ j := by rw [hJ.2.2.2.2.1]; exact cnt_le _ _
    have hdn := dnP_iff hI hj
    have ho : opn S y j = true ↔ ((y >>> (nI j &&& 31)) &&& 1) = 1 ∧ ¬ dnP S j = true := by
      unfold opn
      rw [decide_eq_true_iff, hdn]
      have := i32_bit (y >>> (nI j &&& 31))
      constructor
      · intro g; exact ⟨this.resolve_left g.1, fun h => h g.2⟩
      · intro g; exact ⟨fun h => by rw [h] at g; exact absurd g.1 (by decide), Classical.byContradiction g.2⟩
    have hno : ¬ opn S y j = true → opn S y j = false := fun h => by simpa using h
    refine b_304_19 hI hS2 hJ.2.1 hJ.1 (by omega) (by omega) (by omega) (fun h => by omega) (fun _ h => ?_) (fun _ h1 h2 h3 => ?_) (fun _ h1 h2 h3 s5 e5 s6 e6 => ?_) (fun _ h1 h2 => ?_)
    · exact ih m np c pk hm (hJ.no (hno (fun g => h (ho.mp g).1)))
    · exact ih m np (c + 1) pk hm (hJ.full (ho.mpr ⟨h1, h2⟩) h3)
    · refine ih s6 (np + 1) (c + 1) _ ⟨fun a c1 c2 c3 c4 => ?_, fun a c1 c2 => ?_, ?_⟩ (hJ.add (pk2 := fun i => if i = np then j else pk i) (if_pos rfl) (fun i h => if_neg h) (ho.mpr ⟨h1, h2⟩) h3 e5 e6)
      · rw [e6, mu_ne c1, e5, mu_ne c3]; exact hm.1 a c1 c2 c3 c4
      · rw [e6, mu_idx c2, e5, mu_ne (by decide)]; exact hm.2.1 a c1 c2
      · rw [e6, mu_idx (by decide), e5, mu_ne (by decide)]; exact hm.2.2
    · exact ih m np c pk hm (hJ.no (hno (fun g => (ho.mp g).2 h2)))
  · intro _ m np c pk hm hJ
    have hS2 : m 801 = S := by rw [hm.1 801 (by decide) (by decide) (by decide) (by decide)]; exact hS
    have hc : c ≤ sn S 5 := by rw [hJ.2.2.2.2.1]; exact cnt_le _ _
    exact b_304_19 hI hS2 hJ.2.1 hJ.1 (by omega) (by omega) (by omega) (fun _ => x m np c pk hm hJ (by omega)) (fun h => by omega) (fun h => by omega) (fun h => by omega) (fun h => by omega)
