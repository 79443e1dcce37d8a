/-! WARNED, in the reference (made by wip/whole/gen88.py) -/
theorem b_286_0 {X : Nat × (Nat → Int32)} {d : Nat} {p : Nat → Nat} {sg : Mg} {Q : am_R → Prop} {B : Nat} {S : Nat → Int32} (hI : Inv B S) (hS : sg 801 = S) {q : Nat} (u_q : q ≤ 255)
    (o1 : gW X (d + 2) k_286 4 [some (vR 800), some (vI (nI q)), some (vI (-1)), some (vI 0)] [] p sg Q) :
    gW X (d + 2) k_286 0 [some (vR 800), some (vI (nI q)), none, none] [] p sg Q := by
  have b0 := hI.b0; have b1 := hI.b1; have b2 := hI.b2; have b3 := hI.b3; have b4 := hI.b4; have b5 := hI.b5; have b6 := hI.b6; have b7 := hI.b7; have b8 := hI.b8; have b9 := hI.b9; have b14 := hI.b14
  refine g_pure 4 (i' := 4) (lv' := [some (vR 800), some (vI (nI q)), some (vI (-1)), some (vI 0)]) (st' := []) rfl ?_
  exact o1

theorem b_286_m {X : Nat × (Nat → Int32)} {d : Nat} {p : Nat → Nat} {sg : Mg} {Q : am_R → Prop} {B : Nat} {S : Nat → Int32} (hI : Inv B S) (hS : sg 801 = S) {x : Nat} {q : Nat} {j : Nat} (u_q : q ≤ 255) (u_j : j ≤ 7) (q1 : x ≤ 205) (q2 : j < sn S 1) (hx : sg 812 j = nI x)
    (o1 : ((((nI q) >>> ((nI j) &&& 31)) &&& 1) = 1) → gW X (d + 2) k_286 4 [some (vR 800), some (vI (nI q)), some (vI (-1)), some (vI (nI (j + 1)))] [] p sg Q)
    (o2 : (¬ ((((nI q) >>> ((nI j) &&& 31)) &&& 1) = 1)) → (200 < x) → gW X (d + 2) k_286 4 [some (vR 800), some (vI (nI q)), some (vI (-1)), some (vI (nI (j + 1)))] [] p sg Q)
    (o3 : (¬ ((((nI q) >>> ((nI j) &&& 31)) &&& 1) = 1)) → (¬ (200 < x)) → gW X (d + 2) k_286 4 [some (vR 800), some (vI (nI q)), some (vI (nI j)), some (vI (nI (j + 1)))] [] p sg Q) :
    gW X (d + 2) k_286 4 [some (vR 800), some (vI (nI q)), some (vI (-1)), some (vI (nI j))] [] p sg Q := by
  have b0 := hI.b0; have b1 := hI.b1; have b2 := hI.b2; have b3 := hI.b3; have b4 := hI.b4; have b5 := hI.b5; have b6 := hI.b6; have b7 := hI.b7; have b8 := hI.b8; have b9 := hI.b9; have b14 := hI.b14
  refine g_pure 2 (i' := 6) (lv' := [some (vR 800), some (vI (nI q)), some (vI (-1)), some (vI (nI j))]) (st' := [vR 800, vI (nI j)]) rfl ?_
  refine g_cV1 rfl (args := [vR 800]) (rest := [vI (nI j)]) rfl rfl rfl (s_203 (d := d + 1) hS) ?_
  refine g_if2 (i' := 33) (P := sn S 1 ≤ j) rfl rfl (g_geN (show nI j = nI j from (rfl : nI j = nI j)) (show S 1 = nI (sn S 1) from (hI.c1)) (by omega) (by omega)) (fun h1 => absurd h1 (by omega)) (fun _ => ?_)
  refine g_pure 2 (i' := 10) (lv' := [some (vR 800), some (vI (nI q)), some (vI (-1)), some (vI (nI j))]) (st' := [vI (nI j), vI (nI q)]) rfl ?_
  refine g_cS1 rfl (args := [vI (nI q), vI (nI j)]) (rest := []) rfl rfl rfl (s_201 (d := d + 1) ) ?_
  refine g_if1 (i' := 31) (P := (((nI q) >>> ((nI j) &&& 31)) &&& 1) = 1) rfl rfl g_neB (fun h2 => ?_) (fun h2 => ?_)
  · refine g_pure 2 (i' := 4) (lv' := [some (vR 800), some (vI (nI q)), some (vI (-1)), some (vI (nI j + 1))]) (st' := []) rfl ?_
    refine gW_eq (lv' := [some (vR 800), some (vI (nI q)), some (vI (-1)), some (vI (nI (j + 1)))]) (st' := []) (by rw [(show (nI j + 1) = nI (j + 1) from ((g_add (rfl : nI j = nI j) (show (1 : Int32) = nI 1 from rfl))).trans (congrArg nI (by omega)))]) rfl rfl ?_
    exact o1 h2
  · refine g_pure 3 (i' := 15) (lv' := [some (vR 800), some (vI (nI q)), some (vI (-1)), some (vI (nI j))]) (st' := [vI (nI j), vR 812]) rfl ?_
    refine g_ald rfl (g_A (a := 812) (kd := 1) (n := 8) rfl (by decide)) (by decide) (show nI j = nI j from (rfl : nI j = nI j)) (by omega) (show _ = nI x from hx) ?_
    refine g_pure 1 (i' := 17) (lv' := [some (vR 800), some (vI (nI q)), some (vI (-1)), some (vI (nI j))]) (st' := [vI 200, vI (nI x)]) rfl ?_
    refine g_if2 (i' := 31) (P := 200 < x) rfl rfl (g_gtN (show nI x = nI x from (rfl : nI x = nI x)) (show 200 = nI 200 from (show (200 : Int32) = nI 200 from rfl)) (by omega) (by omega)) (fun h3 => ?_) (fun h3 => ?_)
    · refine g_pure 2 (i' := 4) (lv' := [some (vR 800), some (vI (nI q)), some (vI (-1)), some (vI (nI j + 1))]) (st' := []) rfl ?_
      refine gW_eq (lv' := [some (vR 800), some (vI (nI q)), some (vI (-1)), some (vI (nI (j + 1)))]) (st' := []) (by rw [(show (nI j + 1) = nI (j + 1) from ((g_add (rfl : nI j = nI j) (show (1 : Int32) = nI 1 from rfl))).trans (congrArg nI (by omega)))]) rfl rfl ?_
      exact o2 h2 h3
    · refine g_pure 1 (i' := 19) (lv' := [some (vR 800), some (vI (nI q)), some (vI (-1)), some (vI (nI j))]) (st' := [vI (-1)]) rfl ?_
      refine g_if1 (i' := 29) (P := ((-1) : Int32) < 0) rfl rfl Iff.rfl (fun _ => ?_) (fun h4 => absurd (by decide) h4)
      refine g_pure 4 (i' := 4) (lv' := [some (vR 800), some (vI (nI q)), some (vI (nI j)), some (vI (nI j + 1))]) (st' := []) rfl ?_
      refine gW_eq (lv' := [some (vR 800), some (vI (nI q)), some (vI (nI j)), some (vI (nI (j + 1)))]) (st' := []) (by rw [(show (nI j + 1) = nI (j + 1) from ((g_add (rfl : nI j = nI j) (show (1 : Int32) = nI 1 from rfl))).trans (congrArg nI (by omega)))]) rfl rfl ?_
      exact o3 h2 h3

theorem b_286_b {X : Nat × (Nat → Int32)} {d : Nat} {p : Nat → Nat} {sg : Mg} {Q : am_R → Prop} {B : Nat} {S : Nat → Int32} (hI : Inv B S) (hS : sg 801 = S) {x y : Nat} {q : Nat} {b : Nat} {j : Nat} (u_q : q ≤ 255) (u_b : b ≤ 7) (u_j : j ≤ 7) (q1 : x ≤ 205) (q2 : y ≤ 205) (q3 : j < sn S 1) (hx : sg 812 j = nI x) (hy : sg 812 b = nI y)
    (o1 : ((((nI q) >>> ((nI j) &&& 31)) &&& 1) = 1) → gW X (d + 2) k_286 4 [some (vR 800), some (vI (nI q)), some (vI (nI b)), some (vI (nI (j + 1)))] [] p sg Q)
    (o2 : (¬ ((((nI q) >>> ((nI j) &&& 31)) &&& 1) = 1)) → (200 < x) → gW X (d + 2) k_286 4 [some (vR 800), some (vI (nI q)), some (vI (nI b)), some (vI (nI (j + 1)))] [] p sg Q)
    (o3 : (¬ ((((nI q) >>> ((nI j) &&& 31)) &&& 1) = 1)) → (¬ (200 < x)) → (y ≤ x) → gW X (d + 2) k_286 4 [some (vR 800), some (vI (nI q)), some (vI (nI b)), some (vI (nI (j + 1)))] [] p sg Q)
    (o4 : (¬ ((((nI q) >>> ((nI j) &&& 31)) &&& 1) = 1)) → (¬ (200 < x)) → (¬ (y ≤ x)) → gW X (d + 2) k_286 4 [some (vR 800), some (vI (nI q)), some (vI (nI j)), some (vI (nI (j + 1)))] [] p sg Q) :
    gW X (d + 2) k_286 4 [some (vR 800), some (vI (nI q)), some (vI (nI b)), some (vI (nI j))] [] p sg Q := by
  have b0 := hI.b0; have b1 := hI.b1; have b2 := hI.b2; have b3 := hI.b3; have b4 := hI.b4; have b5 := hI.b5; have b6 := hI.b6; have b7 := hI.b7; have b8 := hI.b8; have b9 := hI.b9; have b14 := hI.b14
  refine g_pure 2 (i' := 6) (lv' := [some (vR 800), some (vI (nI q)), some (vI (nI b)), some (vI (nI j))]) (st' := [vR 800, vI (nI j)]) rfl ?_
  refine g_cV1 rfl (args := [vR 800]) (rest := [vI (nI j)]) rfl rfl rfl (s_203 (d := d + 1) hS) ?_
  refine g_if2 (i' := 33) (P := sn S 1 ≤ j) rfl rfl (g_geN (show nI j = nI j from (rfl : nI j = nI j)) (show S 1 = nI (sn S 1) from (hI.c1)) (by omega) (by omega)) (fun h1 => absurd h1 (by omega)) (fun _ => ?_)
  refine g_pure 2 (i' := 10) (lv' := [some (vR 800), some (vI (nI q)), some (vI (nI b)), some (vI (nI j))]) (st' := [vI (nI j), vI (nI q)]) rfl ?_
  refine g_cS1 rfl (args := [vI (nI q), vI (nI j)]) (rest := []) rfl rfl rfl (s_201 (d := d + 1) ) ?_
  refine g_if1 (i' := 31) (P := (((nI q) >>> ((nI j) &&& 31)) &&& 1) = 1) rfl rfl g_neB (fun h2 => ?_) (fun h2 => ?_)
  · refine g_pure 2 (i' := 4) (lv' := [some (vR 800), some (vI (nI q)), some (vI (nI b)), some (vI (nI j + 1))]) (st' := []) rfl ?_
    refine gW_eq (lv' := [some (vR 800), some (vI (nI q)), some (vI (nI b)), some (vI (nI (j + 1)))]) (st' := []) (by rw [(show (nI j + 1) = nI (j + 1) from ((g_add (rfl : nI j = nI j) (show (1 : Int32) = nI 1 from rfl))).trans (congrArg nI (by omega)))]) rfl rfl ?_
    exact o1 h2
  · refine g_pure 3 (i' := 15) (lv' := [some (vR 800), some (vI (nI q)), some (vI (nI b)), some (vI (nI j))]) (st' := [vI (nI j), vR 812]) rfl ?_
    refine g_ald rfl (g_A (a := 812) (kd := 1) (n := 8) rfl (by decide)) (by decide) (show nI j = nI j from (rfl : nI j = nI j)) (by omega) (show _ = nI x from hx) ?_
    refine g_pure 1 (i' := 17) (lv' := [some (vR 800), some (vI (nI q)), some (vI (nI b)), some (vI (nI j))]) (st' := [vI 200, vI (nI x)]) rfl ?_
    refine g_if2 (i' := 31) (P := 200 < x) rfl rfl (g_gtN (show nI x = nI x from (rfl : nI x = nI x)) (show 200 = nI 200 from (show (200 : Int32) = nI 200 from rfl)) (by omega) (by omega)) (fun h3 => ?_) (fun h3 => ?_)
    · refine g_pure 2 (i' := 4) (lv' := [some (vR 800), some (vI (nI q)), some (vI (nI b)), some (vI (nI j + 1))]) (st' := []) rfl ?_
      refine gW_eq (lv' := [some (vR 800), some (vI (nI q)), some (vI (nI b)), some (vI (nI (j + 1)))]) (st' := []) (by rw [(show (nI j + 1) = nI (j + 1) from ((g_add (rfl : nI j = nI j) (show (1 : Int32) = nI 1 from rfl))).trans (congrArg nI (by omega)))]) rfl rfl ?_
      exact o2 h2 h3
    · refine g_pure 1 (i' := 19) (lv' := [some (vR 800), some (vI (nI q)), some (vI (nI b)), some (vI (nI j))]) (st' := [vI (nI b)]) rfl ?_
      refine g_if1 (i' := 29) (P := b < 0) rfl rfl (g_ltN (show nI b = nI b from (rfl : nI b = nI b)) (show 0 = nI 0 from (show (0 : Int32) = nI 0 from rfl)) (by omega) (by omega)) (fun h4 => absurd h4 (by omega)) (fun _ => ?_)
      refine g_pure 3 (i' := 23) (lv' := [some (vR 800), some (vI (nI q)), some (vI (nI b)), some (vI (nI j))]) (st' := [vI (nI j), vR 812]) rfl ?_
      refine g_ald rfl (g_A (a := 812) (kd := 1) (n := 8) rfl (by decide)) (by decide) (show nI j = nI j from (rfl : nI j = nI j)) (by omega) (show _ = nI x from hx) ?_
      refine g_pure 3 (i' := 27) (lv' := [some (vR 800), some (vI (nI q)), some (vI (nI b)), some (vI (nI j))]) (st' := [vI (nI b), vR 812, vI (nI x)]) rfl ?_
      refine g_ald rfl (g_A (a := 812) (kd := 1) (n := 8) rfl (by decide)) (by decide) (show nI b = nI b from (rfl : nI b = nI b)) (by omega) (show _ = nI y from hy) ?_
      refine g_if2 (i' := 31) (P := y ≤ x) rfl rfl (g_geN (show nI x = nI x from (rfl : nI x = nI x)) (show nI y = nI y from (rfl : nI y = nI y)) (by omega) (by omega)) (fun h5 => ?_) (fun h5 => ?_)
      · refine g_pure 2 (i' := 4) (lv' := [some (vR 800), some (vI (nI q)), some (vI (nI b)), some (vI (nI j + 1))]) (st' := []) rfl ?_
        refine gW_eq (lv' := [some (vR 800), some (vI (nI q)), some (vI (nI b)), some (vI (nI (j + 1)))]) (st' := []) (by rw [(show (nI j + 1) = nI (j + 1) from ((g_add (rfl : nI j = nI j) (show (1 : Int32) = nI 1 from rfl))).trans (congrArg nI (by omega)))]) rfl rfl ?_
        exact o3 h2 h3 h5
      · refine g_pure 4 (i' := 4) (lv' := [some (vR 800), some (vI (nI q)), some (vI (nI j)), some (vI (nI j + 1))]) (st' := []) rfl ?_
        refine gW_eq (lv' := [some (vR 800), some (vI (nI q)), some (vI (nI j)), some (vI (nI (j + 1)))]) (st' := []) (by rw [(show (nI j + 1) = nI (j + 1) from ((g_add (rfl : nI j = nI j) (show (1 : Int32) = nI 1 from rfl))).trans (congrArg nI (by omega)))]) rfl rfl ?_
        exact o4 h2 h3 h5

theorem b_286_e {X : Nat × (Nat → Int32)} {d : Nat} {p : Nat → Nat} {sg : Mg} {Q : am_R → Prop} {B : Nat} {S : Nat → Int32} (hI : Inv B S) (hS : sg 801 = S) {q : Nat} {b : Int32} (u_q : q ≤ 255) (u_snS1 : sn S 1 ≤ 8)
    (o1 : Q (gRv p sg b)) :
    gW X (d + 2) k_286 4 [some (vR 800), some (vI (nI q)), some (vI b), some (vI (nI (sn S 1)))] [] p sg Q := by
  have b0 := hI.b0; have b1 := hI.b1; have b2 := hI.b2; have b3 := hI.b3; have b4 := hI.b4; have b5 := hI.b5; have b6 := hI.b6; have b7 := hI.b7; have b8 := hI.b8; have b9 := hI.b9; have b14 := hI.b14
  refine g_pure 2 (i' := 6) (lv' := [some (vR 800), some (vI (nI q)), some (vI b), some (vI (nI (sn S 1)))]) (st' := [vR 800, vI (nI (sn S 1))]) rfl ?_
  refine g_cV1 rfl (args := [vR 800]) (rest := [vI (nI (sn S 1))]) rfl rfl rfl (s_203 (d := d + 1) hS) ?_
  refine g_if2 (i' := 33) (P := sn S 1 ≤ sn S 1) rfl rfl (g_geN (show nI (sn S 1) = nI (sn S 1) from (rfl : nI (sn S 1) = nI (sn S 1))) (show S 1 = nI (sn S 1) from (hI.c1)) (by omega) (by omega)) (fun _ => ?_) (fun h1 => absurd (Nat.le_refl _) h1)
  refine g_pure 1 (i' := 34) (lv' := [some (vR 800), some (vI (nI q)), some (vI b), some (vI (nI (sn S 1)))]) (st' := [vI b]) rfl ?_
  refine g_iret rfl ?_
  exact o1

theorem b_285_0 {X : Nat × (Nat → Int32)} {d : Nat} {p : Nat → Nat} {sg : Mg} {Q : am_R → Prop} {B : Nat} {S : Nat → Int32} (hI : Inv B S) (hS : sg 801 = S) {k : Nat} {n : Nat} (u_k : k ≤ 7) (u_n : n ≤ 200)
    (o1 : gW X (d + 10) k_285 2 [some (vR 800), some (vI (nI k)), some (vI (nI n)), some (vI 0), none, none, none] [] p sg Q) :
    gW X (d + 10) k_285 0 [some (vR 800), some (vI (nI k)), some (vI (nI n)), none, none, none, none] [] p sg Q := by
  have b0 := hI.b0; have b1 := hI.b1; have b2 := hI.b2; have b3 := hI.b3; have b4 := hI.b4; have b5 := hI.b5; have b6 := hI.b6; have b7 := hI.b7; have b8 := hI.b8; have b9 := hI.b9; have b14 := hI.b14
  refine g_pure 2 (i' := 2) (lv' := [some (vR 800), some (vI (nI k)), some (vI (nI n)), some (vI 0), none, none, none]) (st' := []) rfl ?_
  exact o1

theorem b_285_2 {X : Nat × (Nat → Int32)} {d : Nat} {p : Nat → Nat} {sg : Mg} {Q : am_R → Prop} {B : Nat} {S : Nat → Int32} (hI : Inv B S) (hS : sg 801 = S) {k : Nat} {n : Nat} {j : Nat} {z4 : Option AV} {z5 : Option AV} {z6 : Option AV} (u_k : k ≤ 7) (u_n : n ≤ 200) (u_j : j ≤ 8) (q1 : k < sn S 1)
    (o1 : (sn S 1 ≤ j) → ∀ s4 : Mg, s4 = mu sg 812 k (nI (stN S k - sn S 8)) → gW X (d + 10) k_285 24 [some (vR 800), some (vI (nI k)), some (vI (nI n)), some (vI 0), some (vI (nI k)), z5, z6] [] p s4 Q)
    (o2 : (¬ (sn S 1 ≤ j)) → ∀ s5 : Mg, s5 = mu sg 812 j 201 → gW X (d + 10) k_285 2 [some (vR 800), some (vI (nI k)), some (vI (nI n)), some (vI (nI (j + 1))), z4, z5, z6] [] p s5 Q) :
    gW X (d + 10) k_285 2 [some (vR 800), some (vI (nI k)), some (vI (nI n)), some (vI (nI j)), z4, z5, z6] [] p sg Q := by
  have b0 := hI.b0; have b1 := hI.b1; have b2 := hI.b2; have b3 := hI.b3; have b4 := hI.b4; have b5 := hI.b5; have b6 := hI.b6; have b7 := hI.b7; have b8 := hI.b8; have b9 := hI.b9; have b14 := hI.b14
  refine g_pure 2 (i' := 4) (lv' := [some (vR 800), some (vI (nI k)), some (vI (nI n)), some (vI (nI j)), z4, z5, z6]) (st' := [vR 800, vI (nI j)]) rfl ?_
  refine g_cV1 rfl (args := [vR 800]) (rest := [vI (nI j)]) rfl rfl rfl (s_203 (d := d + 9) hS) ?_
  refine g_if2 (i' := 13) (P := sn S 1 ≤ j) rfl rfl (g_geN (show nI j = nI j from (rfl : nI j = nI j)) (show S 1 = nI (sn S 1) from (hI.c1)) (by omega) (by omega)) (fun h1 => ?_) (fun h1 => ?_)
  · refine g_pure 5 (i' := 18) (lv' := [some (vR 800), some (vI (nI k)), some (vI (nI n)), some (vI (nI j)), z4, z5, z6]) (st' := [vI (nI k), vR 800, vI (nI k), vR 812]) rfl ?_
    refine g_cV1 rfl (args := [vR 800, vI (nI k)]) (rest := [vI (nI k), vR 812]) rfl rfl rfl (s_275 (d := d + 8) hI hS (by omega)) ?_
    have t2 := (hm_ok hI (k := k) (by omega)).2.1
    have t3 := (hm_ok hI (k := k) (by omega)).2.2.1
    refine g_ast rfl (g_A (a := 812) (kd := 1) (n := 8) rfl (by decide)) (by decide) (show nI k = nI k from (rfl : nI k = nI k)) (by omega) ?_
    refine g_setv (fun s4 es4 => ?_)
    have hSs4 : s4 801 = S := by rw [es4, mu_ne (by decide), hS]
    refine g_pure 4 (i' := 24) (lv' := [some (vR 800), some (vI (nI k)), some (vI (nI n)), some (vI 0), some (vI (nI k)), z5, z6]) (st' := []) rfl ?_
    exact o1 h1 s4 es4
  · refine g_pure 4 (i' := 10) (lv' := [some (vR 800), some (vI (nI k)), some (vI (nI n)), some (vI (nI j)), z4, z5, z6]) (st' := [vI 201, vI (nI j), vR 812]) rfl ?_
    refine g_ast rfl (g_A (a := 812) (kd := 1) (n := 8) rfl (by decide)) (by decide) (show nI j = nI j from (rfl : nI j = nI j)) (by omega) ?_
    refine g_setv (fun s5 es5 => ?_)
    have hSs5 : s5 801 = S := by rw [es5, mu_ne (by decide), hS]
    refine g_pure 2 (i' := 2) (lv' := [some (vR 800), some (vI (nI k)), some (vI (nI n)), some (vI (nI j + 1)), z4, z5, z6]) (st' := []) rfl ?_
    refine gW_eq (lv' := [some (vR 800), some (vI (nI k)), some (vI (nI n)), some (vI (nI (j + 1))), z4, z5, z6]) (st' := []) (by rw [(show (nI j + 1) = nI (j + 1) from ((g_add (rfl : nI j = nI j) (show (1 : Int32) = nI 1 from rfl))).trans (congrArg nI (by omega)))]) rfl rfl ?_
    exact o2 h1 s5 es5

theorem b_285_24x {X : Nat × (Nat → Int32)} {d : Nat} {p : Nat → Nat} {sg : Mg} {Q : am_R → Prop} {B : Nat} {S : Nat → Int32} (hI : Inv B S) (hS : sg 801 = S) {k : Nat} {n : Nat} {g : Nat} {z5 : Option AV} {z6 : Option AV} (u_k : k ≤ 7) (u_n : n ≤ 200) (u_g : g ≤ 255)
    (o1 : gW X (d + 10) k_285 92 [some (vR 800), some (vI (nI k)), some (vI (nI n)), some (vI (nI g)), some (vI (1 <<< (nI k &&& 31))), some (vI 0), z6] [] p sg Q) :
    gW X (d + 10) k_285 24 [some (vR 800), some (vI (nI k)), some (vI (nI n)), some (vI (nI g)), some (vI (-1)), z5, z6] [] p sg Q := by
  have b0 := hI.b0; have b1 := hI.b1; have b2 := hI.b2; have b3 := hI.b3; have b4 := hI.b4; have b5 := hI.b5; have b6 := hI.b6; have b7 := hI.b7; have b8 := hI.b8; have b9 := hI.b9; have b14 := hI.b14
  refine g_pure 1 (i' := 25) (lv' := [some (vR 800), some (vI (nI k)), some (vI (nI n)), some (vI (nI g)), some (vI (-1)), z5, z6]) (st' := [vI (-1)]) rfl ?_
  refine g_if1 (i' := 86) (P := ((-1) : Int32) < 0) rfl rfl Iff.rfl (fun _ => ?_) (fun h1 => absurd (by decide) h1)
  refine g_pure 6 (i' := 92) (lv' := [some (vR 800), some (vI (nI k)), some (vI (nI n)), some (vI (nI g)), some (vI (1 <<< (nI k &&& 31))), some (vI 0), z6]) (st' := []) rfl ?_
  exact o1

theorem b_285_24 {X : Nat × (Nat → Int32)} {d : Nat} {p : Nat → Nat} {sg : Mg} {Q : am_R → Prop} {B : Nat} {S : Nat → Int32} (hI : Inv B S) (hS : sg 801 = S) {y : Nat} (hA : InvA S) {k : Nat} {n : Nat} {g : Nat} {m : Nat} {z5 : Option AV} {z6 : Option AV} (u_k : k ≤ 7) (u_n : n ≤ 200) (u_g : g ≤ 255) (u_m : m ≤ 7) (q1 : y ≤ 200) (q2 : m < sn S 1) (hy : sg 812 m = nI y)
    (o1 : ∀ s3 : Mg, (SR sg s3 ∧ ∃ C, cnM 809 1236 s3 C ∧ cnP S m (hmN S m) (sn S 8 + y) C) → gW X (d + 10) k_285 44 [some (vR 800), some (vI (nI k)), some (vI (nI n)), some (vI (nI g ||| (1 <<< (nI m &&& 31)))), some (vI (nI m)), some (vI 0), z6] [] p s3 Q) :
    gW X (d + 10) k_285 24 [some (vR 800), some (vI (nI k)), some (vI (nI n)), some (vI (nI g)), some (vI (nI m)), z5, z6] [] p sg Q := by
  have b0 := hI.b0; have b1 := hI.b1; have b2 := hI.b2; have b3 := hI.b3; have b4 := hI.b4; have b5 := hI.b5; have b6 := hI.b6; have b7 := hI.b7; have b8 := hI.b8; have b9 := hI.b9; have b14 := hI.b14
  refine g_pure 1 (i' := 25) (lv' := [some (vR 800), some (vI (nI k)), some (vI (nI n)), some (vI (nI g)), some (vI (nI m)), z5, z6]) (st' := [vI (nI m)]) rfl ?_
  refine g_if1 (i' := 86) (P := m < 0) rfl rfl (g_ltN (show nI m = nI m from (rfl : nI m = nI m)) (show 0 = nI 0 from (show (0 : Int32) = nI 0 from rfl)) (by omega) (by omega)) (fun h1 => absurd h1 (by omega)) (fun _ => ?_)
  refine g_pure 10 (i' := 36) (lv' := [some (vR 800), some (vI (nI k)), some (vI (nI n)), some (vI (nI g ||| (1 <<< (nI m &&& 31)))), some (vI (nI m)), z5, z6]) (st' := [vI (nI m), vR 800, vI (nI m), vR 800]) rfl ?_
  refine g_cV1 rfl (args := [vR 800, vI (nI m)]) (rest := [vI (nI m), vR 800]) rfl rfl rfl (s_274 (d := d + 8) hI hS (by omega)) ?_
  have t2 := (hm_ok hI (k := m) (by omega)).1
  refine g_pure 3 (i' := 40) (lv' := [some (vR 800), some (vI (nI k)), some (vI (nI n)), some (vI (nI g ||| (1 <<< (nI m &&& 31)))), some (vI (nI m)), z5, z6]) (st' := [vI (nI m), vR 812, vI (nI (hmN S m)), vI (nI m), vR 800]) rfl ?_
  refine g_ald rfl (g_A (a := 812) (kd := 1) (n := 8) rfl (by decide)) (by decide) (show nI m = nI m from (rfl : nI m = nI m)) (by omega) (show _ = nI y from hy) ?_
  refine g_cV0E rfl (args := [vR 800, vI (nI m), vI (nI (hmN S m)), vI (nI y)]) (rest := []) rfl rfl rfl (s_276 (d := d + 1) hI hS hA (by omega) (by omega) (by omega)) (fun s3 es3 => ?_)
  have hSs3 : s3 801 = S := es3.1.S hS
  refine g_pure 2 (i' := 44) (lv' := [some (vR 800), some (vI (nI k)), some (vI (nI n)), some (vI (nI g ||| (1 <<< (nI m &&& 31)))), some (vI (nI m)), some (vI 0), z6]) (st' := []) rfl ?_
  exact o1 s3 es3

theorem b_285_44 {X : Nat × (Nat → Int32)} {d : Nat} {p : Nat → Nat} {sg : Mg} {Q : am_R → Prop} {B : Nat} {S : Nat → Int32} (hI : Inv B S) (hS : sg 801 = S) {y : Nat} {k : Nat} {n : Nat} {g : Nat} {m : Nat} {j : Nat} {z6 : Option AV} (u_k : k ≤ 7) (u_n : n ≤ 200) (u_g : g ≤ 255) (u_m : m ≤ 7) (u_j : j ≤ 7) (q1 : y ≤ 200) (q2 : j < sn S 1) (hy : sg 812 m = nI y)
    (o1 : gW X (d + 10) k_285 57 [some (vR 800), some (vI (nI k)), some (vI (nI n)), some (vI (nI g)), some (vI (nI m)), some (vI (nI j)), some (vI (nI (max y (stN S j - sn S 8))))] [] p sg Q) :
    gW X (d + 10) k_285 44 [some (vR 800), some (vI (nI k)), some (vI (nI n)), some (vI (nI g)), some (vI (nI m)), some (vI (nI j)), z6] [] p sg Q := by
  have b0 := hI.b0; have b1 := hI.b1; have b2 := hI.b2; have b3 := hI.b3; have b4 := hI.b4; have b5 := hI.b5; have b6 := hI.b6; have b7 := hI.b7; have b8 := hI.b8; have b9 := hI.b9; have b14 := hI.b14
  refine g_pure 2 (i' := 46) (lv' := [some (vR 800), some (vI (nI k)), some (vI (nI n)), some (vI (nI g)), some (vI (nI m)), some (vI (nI j)), z6]) (st' := [vR 800, vI (nI j)]) rfl ?_
  refine g_cV1 rfl (args := [vR 800]) (rest := [vI (nI j)]) rfl rfl rfl (s_203 (d := d + 9) hS) ?_
  refine g_if2 (i' := 81) (P := sn S 1 ≤ j) rfl rfl (g_geN (show nI j = nI j from (rfl : nI j = nI j)) (show S 1 = nI (sn S 1) from (hI.c1)) (by omega) (by omega)) (fun h1 => absurd h1 (by omega)) (fun _ => ?_)
  refine g_pure 3 (i' := 51) (lv' := [some (vR 800), some (vI (nI k)), some (vI (nI n)), some (vI (nI g)), some (vI (nI m)), some (vI (nI j)), z6]) (st' := [vI (nI m), vR 812]) rfl ?_
  refine g_ald rfl (g_A (a := 812) (kd := 1) (n := 8) rfl (by decide)) (by decide) (show nI m = nI m from (rfl : nI m = nI m)) (by omega) (show _ = nI y from hy) ?_
  refine g_pure 2 (i' := 54) (lv' := [some (vR 800), some (vI (nI k)), some (vI (nI n)), some (vI (nI g)), some (vI (nI m)), some (vI (nI j)), z6]) (st' := [vI (nI j), vR 800, vI (nI y)]) rfl ?_
  refine g_cV1 rfl (args := [vR 800, vI (nI j)]) (rest := [vI (nI y)]) rfl rfl rfl (s_275 (d := d + 8) hI hS (by omega)) ?_
  have t2 := (hm_ok hI (k := j) (by omega)).2.1
  have t3 := (hm_ok hI (k := j) (by omega)).2.2.1
  refine g_cS1 rfl (args := [vI (nI y), vI (nI (stN S j - sn S 8))]) (rest := []) rfl rfl rfl (s_316n (d := d + 9) (by omega) (by omega)) ?_
  have t4 := Nat.le_max_left y (stN S j - sn S 8)
  have t5 := Nat.le_max_right y (stN S j - sn S 8)
  refine g_pure 1 (i' := 57) (lv' := [some (vR 800), some (vI (nI k)), some (vI (nI n)), some (vI (nI g)), some (vI (nI m)), some (vI (nI j)), some (vI (nI (max y (stN S j - sn S 8))))]) (st' := []) rfl ?_
  exact o1

theorem b_285_44e {X : Nat × (Nat → Int32)} {d : Nat} {p : Nat → Nat} {sg : Mg} {Q : am_R → Prop} {B : Nat} {S : Nat → Int32} (hI : Inv B S) (hS : sg 801 = S) {k : Nat} {n : Nat} {g : Nat} {m : Nat} {z6 : Option AV} (u_k : k ≤ 7) (u_n : n ≤ 200) (u_g : g ≤ 255) (u_m : m ≤ 7) (u_snS1 : sn S 1 ≤ 8)
    (o1 : gW X (d + 10) k_285 81 [some (vR 800), some (vI (nI k)), some (vI (nI n)), some (vI (nI g)), some (vI (nI m)), some (vI (nI (sn S 1))), z6] [] p sg Q) :
    gW X (d + 10) k_285 44 [some (vR 800), some (vI (nI k)), some (vI (nI n)), some (vI (nI g)), some (vI (nI m)), some (vI (nI (sn S 1))), z6] [] p sg Q := by
  have b0 := hI.b0; have b1 := hI.b1; have b2 := hI.b2; have b3 := hI.b3; have b4 := hI.b4; have b5 := hI.b5; have b6 := hI.b6; have b7 := hI.b7; have b8 := hI.b8; have b9 := hI.b9; have b14 := hI.b14
  refine g_pure 2 (i' := 46) (lv' := [some (vR 800), some (vI (nI k)), some (vI (nI n)), some (vI (nI g)), some (vI (nI m)), some (vI (nI (sn S 1))), z6]) (st' := [vR 800, vI (nI (sn S 1))]) rfl ?_
  refine g_cV1 rfl (args := [vR 800]) (rest := [vI (nI (sn S 1))]) rfl rfl rfl (s_203 (d := d + 9) hS) ?_
  refine g_if2 (i' := 81) (P := sn S 1 ≤ sn S 1) rfl rfl (g_geN (show nI (sn S 1) = nI (sn S 1) from (rfl : nI (sn S 1) = nI (sn S 1))) (show S 1 = nI (sn S 1) from (hI.c1)) (by omega) (by omega)) (fun _ => ?_) (fun h1 => absurd (Nat.le_refl _) h1)
  exact o1

theorem b_285_57 {X : Nat × (Nat → Int32)} {d : Nat} {p : Nat → Nat} {sg : Mg} {Q : am_R → Prop} {B : Nat} {S : Nat → Int32} (hI : Inv B S) (hS : sg 801 = S) {x : Nat} {C : Nat → Bool} (hC : cnM 809 1236 sg C) {k : Nat} {n : Nat} {g : Nat} {m : Nat} {j : Nat} {t : Nat} (u_k : k ≤ 7) (u_n : n ≤ 200) (u_g : g ≤ 255) (u_m : m ≤ 7) (u_j : j ≤ 7) (u_t : t ≤ 201) (q1 : x ≤ 205) (q2 : j < sn S 1) (hx : sg 812 j = nI x)
    (o1 : (200 < t) → ∀ s4 : Mg, s4 = mu sg 812 j (nI (min x t)) → gW X (d + 10) k_285 44 [some (vR 800), some (vI (nI k)), some (vI (nI n)), some (vI (nI g)), some (vI (nI m)), some (vI (nI (j + 1))), some (vI (nI t))] [] p s4 Q)
    (o2 : (¬ (200 < t)) → (C (6 * t + (hmN S j)) = true) → ∀ s9 : Mg, s9 = mu sg 812 j (nI (min x t)) → gW X (d + 10) k_285 44 [some (vR 800), some (vI (nI k)), some (vI (nI n)), some (vI (nI g)), some (vI (nI m)), some (vI (nI (j + 1))), some (vI (nI t))] [] p s9 Q)
    (o3 : (¬ (200 < t)) → (¬ (C (6 * t + (hmN S j)) = true)) → gW X (d + 10) k_285 57 [some (vR 800), some (vI (nI k)), some (vI (nI n)), some (vI (nI g)), some (vI (nI m)), some (vI (nI j)), some (vI (nI (t + 1)))] [] p sg Q) :
    gW X (d + 10) k_285 57 [some (vR 800), some (vI (nI k)), some (vI (nI n)), some (vI (nI g)), some (vI (nI m)), some (vI (nI j)), some (vI (nI t))] [] p sg Q := by
  have b0 := hI.b0; have b1 := hI.b1; have b2 := hI.b2; have b3 := hI.b3; have b4 := hI.b4; have b5 := hI.b5; have b6 := hI.b6; have b7 := hI.b7; have b8 := hI.b8; have b9 := hI.b9; have b14 := hI.b14
  refine g_pure 2 (i' := 59) (lv' := [some (vR 800), some (vI (nI k)), some (vI (nI n)), some (vI (nI g)), some (vI (nI m)), some (vI (nI j)), some (vI (nI t))]) (st' := [vI 200, vI (nI t)]) rfl ?_
  refine g_if2 (i' := 69) (P := 200 < t) rfl rfl (g_gtN (show nI t = nI t from (rfl : nI t = nI t)) (show 200 = nI 200 from (show (200 : Int32) = nI 200 from rfl)) (by omega) (by omega)) (fun h1 => ?_) (fun h1 => ?_)
  · refine g_pure 6 (i' := 75) (lv' := [some (vR 800), some (vI (nI k)), some (vI (nI n)), some (vI (nI g)), some (vI (nI m)), some (vI (nI j)), some (vI (nI t))]) (st' := [vI (nI j), vR 812, vI (nI j), vR 812]) rfl ?_
    refine g_ald rfl (g_A (a := 812) (kd := 1) (n := 8) rfl (by decide)) (by decide) (show nI j = nI j from (rfl : nI j = nI j)) (by omega) (show _ = nI x from hx) ?_
    refine g_pure 1 (i' := 77) (lv' := [some (vR 800), some (vI (nI k)), some (vI (nI n)), some (vI (nI g)), some (vI (nI m)), some (vI (nI j)), some (vI (nI t))]) (st' := [vI (nI t), vI (nI x), vI (nI j), vR 812]) rfl ?_
    refine g_cS1 rfl (args := [vI (nI x), vI (nI t)]) (rest := [vI (nI j), vR 812]) rfl rfl rfl (s_313n (d := d + 9) (by omega) (by omega)) ?_
    have t2 := Nat.min_le_left x t
    have t3 := Nat.min_le_right x t
    refine g_ast rfl (g_A (a := 812) (kd := 1) (n := 8) rfl (by decide)) (by decide) (show nI j = nI j from (rfl : nI j = nI j)) (by omega) ?_
    refine g_setv (fun s4 es4 => ?_)
    have hSs4 : s4 801 = S := by rw [es4, mu_ne (by decide), hS]
    refine g_pure 2 (i' := 44) (lv' := [some (vR 800), some (vI (nI k)), some (vI (nI n)), some (vI (nI g)), some (vI (nI m)), some (vI (nI j + 1)), some (vI (nI t))]) (st' := []) rfl ?_
    refine gW_eq (lv' := [some (vR 800), some (vI (nI k)), some (vI (nI n)), some (vI (nI g)), some (vI (nI m)), some (vI (nI (j + 1))), some (vI (nI t))]) (st' := []) (by rw [(show (nI j + 1) = nI (j + 1) from ((g_add (rfl : nI j = nI j) (show (1 : Int32) = nI 1 from rfl))).trans (congrArg nI (by omega)))]) rfl rfl ?_
    exact o1 h1 s4 es4
  · refine g_pure 4 (i' := 64) (lv' := [some (vR 800), some (vI (nI k)), some (vI (nI n)), some (vI (nI g)), some (vI (nI m)), some (vI (nI j)), some (vI (nI t))]) (st' := [vI (nI j), vR 800, vI (nI t), vR 800]) rfl ?_
    refine g_cV1 rfl (args := [vR 800, vI (nI j)]) (rest := [vI (nI t), vR 800]) rfl rfl rfl (s_274 (d := d + 8) hI hS (by omega)) ?_
    have t5 := (hm_ok hI (k := j) (by omega)).1
    refine g_cV1 rfl (args := [vR 800, vI (nI t), vI (nI (hmN S j))]) (rest := []) rfl rfl rfl (s_278 (d := d + 8) hI hS hC (by omega) (by omega)) ?_
    refine g_if1 (i' := 69) (P := C (6 * t + (hmN S j)) = true) rfl rfl g_neB (fun h6 => ?_) (fun h6 => ?_)
    · refine g_pure 6 (i' := 75) (lv' := [some (vR 800), some (vI (nI k)), some (vI (nI n)), some (vI (nI g)), some (vI (nI m)), some (vI (nI j)), some (vI (nI t))]) (st' := [vI (nI j), vR 812, vI (nI j), vR 812]) rfl ?_
      refine g_ald rfl (g_A (a := 812) (kd := 1) (n := 8) rfl (by decide)) (by decide) (show nI j = nI j from (rfl : nI j = nI j)) (by omega) (show _ = nI x from hx) ?_
      refine g_pure 1 (i' := 77) (lv' := [some (vR 800), some (vI (nI k)), some (vI (nI n)), some (vI (nI g)), some (vI (nI m)), some (vI (nI j)), some (vI (nI t))]) (st' := [vI (nI t), vI (nI x), vI (nI j), vR 812]) rfl ?_
      refine g_cS1 rfl (args := [vI (nI x), vI (nI t)]) (rest := [vI (nI j), vR 812]) rfl rfl rfl (s_313n (d := d + 9) (by omega) (by omega)) ?_
      have t7 := Nat.min_le_left x t
      have t8 := Nat.min_le_right x t
      refine g_ast rfl (g_A (a := 812) (kd := 1) (n := 8) rfl (by decide)) (by decide) (show nI j = nI j from (rfl : nI j = nI j)) (by omega) ?_
      refine g_setv (fun s9 es9 => ?_)
      have hSs9 : s9 801 = S := by rw [es9, mu_ne (by decide), hS]
      refine g_pure 2 (i' := 44) (lv' := [some (vR 800), some (vI (nI k)), some (vI (nI n)), some (vI (nI g)), some (vI (nI m)), some (vI (nI j + 1)), some (vI (nI t))]) (st' := []) rfl ?_
      refine gW_eq (lv' := [some (vR 800), some (vI (nI k)), some (vI (nI n)), some (vI (nI g)), some (vI (nI m)), some (vI (nI (j + 1))), some (vI (nI t))]) (st' := []) (by rw [(show (nI j + 1) = nI (j + 1) from ((g_add (rfl : nI j = nI j) (show (1 : Int32) = nI 1 from rfl))).trans (congrArg nI (by omega)))]) rfl rfl ?_
      exact o2 h1 h6 s9 es9
    · refine g_pure 2 (i' := 57) (lv' := [some (vR 800), some (vI (nI k)), some (vI (nI n)), some (vI (nI g)), some (vI (nI m)), some (vI (nI j)), some (vI (nI t + 1))]) (st' := []) rfl ?_
      refine gW_eq (lv' := [some (vR 800), some (vI (nI k)), some (vI (nI n)), some (vI (nI g)), some (vI (nI m)), some (vI (nI j)), some (vI (nI (t + 1)))]) (st' := []) (by rw [(show (nI t + 1) = nI (t + 1) from ((g_add (rfl : nI t = nI t) (show (1 : Int32) = nI 1 from rfl))).trans (congrArg nI (by omega)))]) rfl rfl ?_
      exact o3 h1 h6

theorem b_285_92 {X : Nat × (Nat → Int32)} {d : Nat} {p : Nat → Nat} {sg : Mg} {Q : am_R → Prop} {B : Nat} {S : Nat → Int32} (hI : Inv B S) (hS : sg 801 = S) {x : Nat} {z1 : Option AV} {n : Nat} {z3 : Option AV} {b : Nat} {j : Nat} {z6 : Option AV} (u_n : n ≤ 200) (u_b : b ≤ 255) (u_j : j ≤ 7) (q1 : x ≤ 205) (q2 : j < sn S 1) (hx : sg 812 j = nI x)
    (o1 : (n < x) → gW X (d + 10) k_285 92 [some (vR 800), z1, some (vI (nI n)), z3, some (vI (nI b ||| 0)), some (vI (nI (j + 1))), z6] [] p sg Q)
    (o2 : (¬ (n < x)) → gW X (d + 10) k_285 92 [some (vR 800), z1, some (vI (nI n)), z3, some (vI (nI b ||| (1 <<< (nI j &&& 31)))), some (vI (nI (j + 1))), z6] [] p sg Q) :
    gW X (d + 10) k_285 92 [some (vR 800), z1, some (vI (nI n)), z3, some (vI (nI b)), some (vI (nI j)), z6] [] p sg Q := by
  have b0 := hI.b0; have b1 := hI.b1; have b2 := hI.b2; have b3 := hI.b3; have b4 := hI.b4; have b5 := hI.b5; have b6 := hI.b6; have b7 := hI.b7; have b8 := hI.b8; have b9 := hI.b9; have b14 := hI.b14
  refine g_pure 2 (i' := 94) (lv' := [some (vR 800), z1, some (vI (nI n)), z3, some (vI (nI b)), some (vI (nI j)), z6]) (st' := [vR 800, vI (nI j)]) rfl ?_
  refine g_cV1 rfl (args := [vR 800]) (rest := [vI (nI j)]) rfl rfl rfl (s_203 (d := d + 9) hS) ?_
  refine g_if2 (i' := 112) (P := sn S 1 ≤ j) rfl rfl (g_geN (show nI j = nI j from (rfl : nI j = nI j)) (show S 1 = nI (sn S 1) from (hI.c1)) (by omega) (by omega)) (fun h1 => absurd h1 (by omega)) (fun _ => ?_)
  refine g_pure 4 (i' := 100) (lv' := [some (vR 800), z1, some (vI (nI n)), z3, some (vI (nI b)), some (vI (nI j)), z6]) (st' := [vI (nI j), vR 812, vI (nI b)]) rfl ?_
  refine g_ald rfl (g_A (a := 812) (kd := 1) (n := 8) rfl (by decide)) (by decide) (show nI j = nI j from (rfl : nI j = nI j)) (by omega) (show _ = nI x from hx) ?_
  refine g_pure 1 (i' := 102) (lv' := [some (vR 800), z1, some (vI (nI n)), z3, some (vI (nI b)), some (vI (nI j)), z6]) (st' := [vI (nI n), vI (nI x), vI (nI b)]) rfl ?_
  refine g_if2 (i' := 107) (P := n < x) rfl rfl (g_gtN (show nI x = nI x from (rfl : nI x = nI x)) (show nI n = nI n from (rfl : nI n = nI n)) (by omega) (by omega)) (fun h2 => ?_) (fun h2 => ?_)
  · refine g_pure 5 (i' := 92) (lv' := [some (vR 800), z1, some (vI (nI n)), z3, some (vI (nI b ||| 0)), some (vI (nI j + 1)), z6]) (st' := []) rfl ?_
    refine gW_eq (lv' := [some (vR 800), z1, some (vI (nI n)), z3, some (vI (nI b ||| 0)), some (vI (nI (j + 1))), z6]) (st' := []) (by rw [(show (nI j + 1) = nI (j + 1) from ((g_add (rfl : nI j = nI j) (show (1 : Int32) = nI 1 from rfl))).trans (congrArg nI (by omega)))]) rfl rfl ?_
    exact o1 h2
  · refine g_pure 8 (i' := 92) (lv' := [some (vR 800), z1, some (vI (nI n)), z3, some (vI (nI b ||| (1 <<< (nI j &&& 31)))), some (vI (nI j + 1)), z6]) (st' := []) rfl ?_
    refine gW_eq (lv' := [some (vR 800), z1, some (vI (nI n)), z3, some (vI (nI b ||| (1 <<< (nI j &&& 31)))), some (vI (nI (j + 1))), z6]) (st' := []) (by rw [(show (nI j + 1) = nI (j + 1) from ((g_add (rfl : nI j = nI j) (show (1 : Int32) = nI 1 from rfl))).trans (congrArg nI (by omega)))]) rfl rfl ?_
    exact o2 h2

theorem b_285_92e {X : Nat × (Nat → Int32)} {d : Nat} {p : Nat → Nat} {sg : Mg} {Q : am_R → Prop} {B : Nat} {S : Nat → Int32} (hI : Inv B S) (hS : sg 801 = S) {z1 : Option AV} {n : Nat} {z3 : Option AV} {b : Nat} {z6 : Option AV} (u_n : n ≤ 200) (u_b : b ≤ 255) (u_snS1 : sn S 1 ≤ 8)
    (o1 : Q (gRv p sg (nI b))) :
    gW X (d + 10) k_285 92 [some (vR 800), z1, some (vI (nI n)), z3, some (vI (nI b)), some (vI (nI (sn S 1))), z6] [] p sg Q := by
  have b0 := hI.b0; have b1 := hI.b1; have b2 := hI.b2; have b3 := hI.b3; have b4 := hI.b4; have b5 := hI.b5; have b6 := hI.b6; have b7 := hI.b7; have b8 := hI.b8; have b9 := hI.b9; have b14 := hI.b14
  refine g_pure 2 (i' := 94) (lv' := [some (vR 800), z1, some (vI (nI n)), z3, some (vI (nI b)), some (vI (nI (sn S 1))), z6]) (st' := [vR 800, vI (nI (sn S 1))]) rfl ?_
  refine g_cV1 rfl (args := [vR 800]) (rest := [vI (nI (sn S 1))]) rfl rfl rfl (s_203 (d := d + 9) hS) ?_
  refine g_if2 (i' := 112) (P := sn S 1 ≤ sn S 1) rfl rfl (g_geN (show nI (sn S 1) = nI (sn S 1) from (rfl : nI (sn S 1) = nI (sn S 1))) (show S 1 = nI (sn S 1) from (hI.c1)) (by omega) (by omega)) (fun _ => ?_) (fun h1 => absurd (Nat.le_refl _) h1)
  refine g_pure 1 (i' := 113) (lv' := [some (vR 800), z1, some (vI (nI n)), z3, some (vI (nI b)), some (vI (nI (sn S 1))), z6]) (st' := [vI (nI b)]) rfl ?_
  refine g_iret rfl ?_
  exact o1

/-- the told times as the reference has them -/
def trM (N : Nat) (s : Mg) (E : Nat → Nat) : Prop := ∀ u, u < N → s 812 u = nI (E u) ∧ E u ≤ 201
theorem trM.up {N : Nat} {s : Mg} {E : Nat → Nat} (h : trM N s E) {u x : Nat} (hx : x ≤ 201) : trM N (mu s 812 u (nI x)) (fun i => if i = u then x else E i) := fun i hi => by
  dsimp only
  by_cases e : i = u
  · subst e
    rw [mu_self, if_pos rfl]
    exact ⟨rfl, hx⟩
  · rw [mu_idx e, if_neg e]
    exact h i hi
theorem trM.eq {N : Nat} {s s' : Mg} {E : Nat → Nat} (h : trM N s E) (e : s' 812 = s 812) : trM N s' E := fun u hu => by rw [e]; exact h u hu
def selR (S : Nat → Int32) (E : Nat → Nat) (q j : Nat) (v : Int32) : Prop := (v = -1 ∧ ∀ o, o < j → q.testBit o = false → 200 < E o) ∨ ∃ m, m < j ∧ v = nI m ∧ q.testBit m = false ∧ E m ≤ 200 ∧ ∀ o, o < j → q.testBit o = false → E m ≤ E o
theorem s_286 {X : Nat × (Nat → Int32)} {d : Nat} {p : Nat → Nat} {sg : Mg} {B : Nat} {S : Nat → Int32} (hI : Inv B S) (hS : sg 801 = S) {q : Nat} {E : Nat → Nat} (hq : q < 256) (hM : trM (sn S 1) sg E) : gF X (d + 3) 286 [vR 800, vI (nI q)] p sg (fun r => ∃ v, selR S E q (sn S 1) v ∧ r = gRv p sg v) := by
  have b1 := hI.b1
  refine g_in (cd := k_286) (nL := 4) (rc := 13) rfl (g_A (a := 800) (kd := 0) (n := 12) rfl (by decide)) (g_c1 rfl) (b_286_0 hI hS (by omega) ?_)
  have key := g_upI (P := fun j => ∀ v, selR S E q j v → gW X (d + 2) k_286 4 [some (vR 800), some (vI (nI q)), some (vI v), some (vI (nI j))] [] p sg (fun r => ∃ v, selR S E q (sn S 1) v ∧ r = gRv p sg v)) (I := fun _ => True) (n := sn S 1) (a := 0) (by omega) trivial ?_ ?_
  · exact key (-1) (Or.inl ⟨rfl, fun o ho => absurd ho (Nat.not_lt_zero _)⟩)
  · intro j _ hj _ ih v hv
    have ih := ih trivial
    have m := hM j (by omega)
    have skip : (q.testBit j = true ∨ 200 < E j ∨ ∃ m, v = nI m ∧ m < j ∧ E m ≤ E j) → selR S E q (j + 1) v := fun h => by
      rcases hv with ⟨h1, h2⟩ | ⟨b, h1, h2, h3, h4, h5⟩
      · refine Or.inl ⟨h1, fun o ho hb => ?_⟩
        by_cases e : o = j
        · subst e
          rcases h with h | h | ⟨m, h, h9, _⟩
          · rw [h] at hb; cases hb
          · exact h
          · rw [h1] at h; exact absurd h.symm (nI_m1 (by omega))
        · exact h2 o (by omega) hb
      · refine Or.inr ⟨b, by omega, h2, h3, h4, fun o ho hb => ?_⟩
        by_cases e : o = j
        · subst e
          rcases h with h | h | ⟨m, h, h9, h10⟩
          · rw [h] at hb; cases hb
          · omega
          · rw [h2, nI_eq (by omega) (by omega)] at h; subst h; exact h10
        · exact h5 o (by omega) hb
    have take : q.testBit j = false → E j ≤ 200 → (∀ o, o < j → q.testBit o = false → E j ≤ E o) → selR S E q (j + 1) (nI j) := fun h1 h2 h3 => by
      refine Or.inr ⟨j, by omega, rfl, h1, h2, fun o ho hb => ?_⟩
      by_cases e : o = j
      · subst e; exact Nat.le_refl _
      · exact h3 o (by omega) hb
    have bt : (((nI q) >>> ((nI j) &&& 31)) &&& 1) = 1 → q.testBit j = true := (nI_bit1 (by omega) (by omega)).mp
    have bf : ¬ (((nI q) >>> ((nI j) &&& 31)) &&& 1) = 1 → q.testBit j = false := fun h => by
      rw [nI_bit1 (by omega) (by omega)] at h
      simpa using h
    rcases hv with ⟨h1, h2⟩ | ⟨b, h1, h2, h3, h4, h5⟩
    · subst h1
      refine b_286_m hI hS (by omega) (by omega) (by omega) hj m.1 (fun h => ih _ (skip (Or.inl (bt h)))) (fun h h9 => ih _ (skip (Or.inr (Or.inl h9)))) (fun h h9 => ih _ (take (bf h) (by omega) (fun o ho hb => ?_)))
      have := h2 o ho hb
      omega
    · subst h2
      have m2 := hM b (by omega)
      refine b_286_b hI hS (by omega) (by omega) (by omega) (by omega) (by omega) hj m.1 m2.1 (fun h => ih _ (skip (Or.inl (bt h)))) (fun h h9 => ih _ (skip (Or.inr (Or.inl h9)))) (fun h h9 h10 => ih _ (skip (Or.inr (Or.inr ⟨b, rfl, h1, h10⟩)))) (fun h h9 h10 => ih _ (take (bf h) (by omega) (fun o ho hb => ?_)))
      have := h5 o ho hb
      omega
  · intro _ v hv
    exact b_286_e hI hS (by omega) (by omega) ⟨v, hv, rfl⟩
/-- beside the told times and what spreads -/
def ST (sg s : Mg) : Prop := ∀ c, c ≠ 807 → c ≠ 809 → c ≠ 812 → s c = sg c
theorem ST.rf (sg : Mg) : ST sg sg := fun _ _ _ _ => rfl
theorem ST.tr {a b c : Mg} (h : ST a b) (g : ST b c) : ST a c := fun x h1 h2 h3 => (g x h1 h2 h3).trans (h x h1 h2 h3)
theorem ST.sr {a b : Mg} (h : SR a b) : ST a b := fun x h1 h2 _ => h x h1 h2
theorem ST.S {sg s : Mg} {S : Nat → Int32} (h : ST sg s) (hS : sg 801 = S) : s 801 = S := by rw [h 801 (by decide) (by decide) (by decide)]; exact hS
/-- those who hear -/
theorem l_285_44 {X : Nat × (Nat → Int32)} {d : Nat} {p : Nat → Nat} {sg : Mg} {B : Nat} {S : Nat → Int32} (hI : Inv B S) (hS : sg 801 = S) {Q : am_R → Prop} {k n g m : Nat} {E : Nat → Nat} {C : Nat → Bool} (hk : k ≤ 7) (hn : n ≤ 200) (hg : g < 256) (hm : m < sn S 1) (hE : E m ≤ 200) (hT : trM (sn S 1) sg E) (hC : cnM 809 1236 sg C) (hP : cnP S m (hmN S m) (sn S 8 + E m) C) {z6 : Option AV}
    (x : ∀ s E' z5 z6, (∀ c, c ≠ 812 → s c = sg c) → trM (sn S 1) s E' → (∀ o, o < sn S 1 → sn S 8 + E' o = sn S 8 + E o ∨ (sn S 8 + E' o < sn S 8 + E o ∧ sn S 8 + E' o ≤ sn S 8 + 200 ∧ Rch S m (hmN S m) (sn S 8 + E m) (sn S 8 + E' o) (hmN S o) ∧ stN S o ≤ sn S 8 + E' o)) → (∀ o, o < sn S 1 → ∀ T, T ≤ sn S 8 + 200 → Rch S m (hmN S m) (sn S 8 + E m) T (hmN S o) → stN S o ≤ T → sn S 8 + E' o ≤ T) → gW X (d + 10) k_285 81 [some (vR 800), some (vI (nI k)), some (vI (nI n)), some (vI (nI g)), some (vI (nI m)), z5, z6] [] p s Q) :
    gW X (d + 10) k_285 44 [some (vR 800), some (vI (nI k)), some (vI (nI n)), some (vI (nI g)), some (vI (nI m)), some (vI (nI 0)), z6] [] p sg Q := by
  have b0 := hI.b0; have b1 := hI.b1; have b8 := hI.b8
  have key := g_upI (P := fun j => ∀ s E' z6, (∀ c, c ≠ 812 → s c = sg c) → trM (sn S 1) s E' → E' m = E m → (∀ o, o < j → (sn S 8 + E' o = sn S 8 + E o ∨ (sn S 8 + E' o < sn S 8 + E o ∧ sn S 8 + E' o ≤ sn S 8 + 200 ∧ Rch S m (hmN S m) (sn S 8 + E m) (sn S 8 + E' o) (hmN S o) ∧ stN S o ≤ sn S 8 + E' o)) ∧ ∀ T, T ≤ sn S 8 + 200 → Rch S m (hmN S m) (sn S 8 + E m) T (hmN S o) → stN S o ≤ T → sn S 8 + E' o ≤ T) → (∀ o, j ≤ o → E' o = E o) → gW X (d + 10) k_285 44 [some (vR 800), some (vI (nI k)), some (vI (nI n)), some (vI (nI g)), some (vI (nI m)), some (vI (nI j)), z6] [] p s Q) (I := fun _ => True) (n := sn S 1) (a := 0) (by omega) trivial ?_ ?_
  · exact key sg E z6 (fun _ _ => rfl) hT rfl (fun o ho => absurd ho (Nat.not_lt_zero _)) (fun _ _ => rfl)
  · intro j _ hj _ ih s E' z6 hs hT hEm h1 h2
    have ih := ih trivial
    have hS2 : s 801 = S := by rw [hs 801 (by decide)]; exact hS
    obtain ⟨k1, k2, k3, _, _⟩ := hm_ok hI hj
    have hC2 : cnM 809 1236 s C := hC.eq (hs 809 (by decide))
    have mm := hT m (by omega)
    have mj := hT j (by omega)
    have e0 : E' j = E j := h2 j (Nat.le_refl _)
    refine b_285_44 hI hS2 hk hn (by omega) (by omega) (by omega) (show E' m ≤ 200 by omega) hj mm.1 ?_
    rw [hEm]
    have ht0 : max (E m) (stN S j - sn S 8) ≤ 201 := by omega
    generalize e9 : max (E m) (stN S j - sn S 8) = t0 at ht0
    have fin : ∀ t s4 z6, t0 ≤ t → t ≤ 201 → (∀ u, t0 ≤ u → u < t → C (6 * u + hmN S j) = false) → (200 < t ∨ C (6 * t + hmN S j) = true) → s4 = mu s 812 j (nI (min (E' j) t)) → gW X (d + 10) k_285 44 [some (vR 800), some (vI (nI k)), some (vI (nI n)), some (vI (nI g)), some (vI (nI m)), some (vI (nI (j + 1))), z6] [] p s4 Q := by
      intro t s4 z6 g1 g2 g3 g4 e4
      have hT4 : trM (sn S 1) s4 (fun i => if i = j then min (E' j) t else E' i) := by rw [e4]; exact hT.up (by omega)
      have q1 : sn S 8 + min (E' j) t = sn S 8 + E j ∨ (sn S 8 + min (E' j) t < sn S 8 + E j ∧ sn S 8 + min (E' j) t ≤ sn S 8 + 200 ∧ Rch S m (hmN S m) (sn S 8 + E m) (sn S 8 + min (E' j) t) (hmN S j) ∧ stN S j ≤ sn S 8 + min (E' j) t) := by
        by_cases c : t < E' j
        · rw [Nat.min_eq_right (by omega)]
          refine Or.inr ⟨by omega, by omega, (hP t _ (by omega) k1).mp (g4.resolve_left (by omega)), by omega⟩
        · rw [Nat.min_eq_left (by omega)]
          exact Or.inl (by omega)
      have q2 : ∀ T, T ≤ sn S 8 + 200 → Rch S m (hmN S m) (sn S 8 + E m) T (hmN S j) → stN S j ≤ T → sn S 8 + min (E' j) t ≤ T := fun T hT hR hs => by
        have r1 := hR.ge
        have r2 := (hP (T - sn S 8) _ (by omega) k1).mpr (by rw [show sn S 8 + (T - sn S 8) = T by omega]; exact hR)
        rcases Nat.lt_or_ge (T - sn S 8) t with r3 | r3
        · rw [g3 _ (by omega) r3] at r2; cases r2
        · omega
      refine ih s4 (fun i => if i = j then min (E' j) t else E' i) z6 (fun c hc => by rw [e4, mu_ne hc]; exact hs c hc) hT4 ?_ (fun o ho => ?_) (fun o ho => by rw [if_neg (by omega)]; exact h2 o (by omega))
      · by_cases e : m = j
        · subst e
          rw [if_pos rfl]
          rcases q1 with r | r
          · omega
          · have := r.2.2.1.ge; omega
        · rw [if_neg e]; exact hEm
      · by_cases e : o = j
        · subst e
          rw [if_pos rfl]
          exact ⟨q1, q2⟩
        · rw [if_neg e]
          exact h1 o (by omega)
    have key := g_upI (P := fun t => gW X (d + 10) k_285 57 [some (vR 800), some (vI (nI k)), some (vI (nI n)), some (vI (nI g)), some (vI (nI m)), some (vI (nI j)), some (vI (nI t))] [] p s Q) (I := fun t => ∀ u, t0 ≤ u → u < t → C (6 * u + hmN S j) = false) (n := 201) (a := t0) ht0 (fun u h1 h2 => by omega) ?_ ?_
    · exact key
    · intro t ht1 ht2 hi ih2
      refine b_285_57 hI hS2 hC2 hk hn (by omega) (by omega) (by omega) (by omega) (by omega) hj mj.1 (fun h => by omega) (fun _ h s9 e9 => fin t s9 _ ht1 (by omega) hi (Or.inr h) e9) (fun _ h => ih2 (fun u h1 h2 => ?_))
      by_cases e : u = t
      · subst e; simpa using h
      · exact hi u h1 (by omega)
    · intro hi
      exact b_285_57 hI hS2 hC2 hk hn (by omega) (by omega) (by omega) (by omega) (by omega) hj mj.1 (fun h s4 e4 => fin 201 s4 _ ht0 (Nat.le_refl _) hi (Or.inl h) e4) (fun h => by omega) (fun h => by omega)
  · intro _ s E' z6 hs hT hEm h1 h2
    have hS2 : s 801 = S := by rw [hs 801 (by decide)]; exact hS
    exact b_285_44e hI hS2 hk hn (by omega) (by omega) (by omega) (x s E' _ _ hs hT (fun o ho => (h1 o ho).1) (fun o ho => (h1 o ho).2))

theorem s_285 {X : Nat × (Nat → Int32)} {d : Nat} {p : Nat → Nat} {sg : Mg} {B : Nat} {S : Nat → Int32} (hI : Inv B S) (hS : sg 801 = S) (hA : InvA S) {k n : Nat} (hk : k < sn S 1) (hn : n ≤ 200) : gF X (d + 11) 285 [vR 800, vI (nI k), vI (nI n)] p sg (fun r => ∃ s, ST sg s ∧ r = gRv p s (nI (bset (wnP S k (sn S 8 + n)) (sn S 1)))) := by
  have b0 := hI.b0; have b1 := hI.b1; have b8 := hI.b8
  have p8 := pw8 (sn S 1) (by omega)
  obtain ⟨k1, k2, k3, _, _⟩ := hm_ok hI hk
  refine g_in (cd := k_285) (nL := 7) (rc := 13) rfl (g_A (a := 800) (kd := 0) (n := 12) rfl (by decide)) (g_c1 rfl) (b_285_0 hI hS (by omega) hn ?_)
  -- the end
  have fin : ∀ s g E z5 z6, ST sg s → trM (sn S 1) s E → g < 2 ^ sn S 1 → dkI S k (sn S 8 + 200) (fun o => sn S 8 + E o) (fun o => g.testBit o) → (∀ o, o < sn S 1 → g.testBit o = false → 200 < E o) → gW X (d + 10) k_285 24 [some (vR 800), some (vI (nI k)), some (vI (nI n)), some (vI (nI g)), some (vI (-1)), z5, z6] [] p s (fun r => ∃ s, ST sg s ∧ r = gRv p s (nI (bset (wnP S k (sn S 8 + n)) (sn S 1)))) := by
    intro s g E z5 z6 hs hM hg hd h6
    have hdone := hd.done hk (fun o ho hb => by have := h6 o ho hb; omega)
    refine b_285_24x hI (hs.S hS) (by omega) hn (by omega) ?_
    rw [nI_shl1 (by omega)]
    have ik : 2 ^ k < 2 ^ sn S 1 := pow_lt2 hk
    have key := g_upI (P := fun j => gW X (d + 10) k_285 92 [some (vR 800), some (vI (nI k)), some (vI (nI n)), some (vI (nI g)), some (vI (nI (2 ^ k ||| bset (fun o => decide (E o ≤ n)) j))), some (vI (nI j)), z6] [] p s (fun r => ∃ s, ST sg s ∧ r = gRv p s (nI (bset (wnP S k (sn S 8 + n)) (sn S 1))))) (I := fun _ => True) (n := sn S 1) (a := 0) (by omega) trivial ?_ ?_
    · rw [show bset (fun o => decide (E o ≤ n)) 0 = 0 from rfl, Nat.or_zero] at key
      exact key
    · intro j _ hj _ ih
      have ih := ih trivial
      have mj := hM j (by omega)
      have bb := or_lt (n := 8) (pow_lt2 (show k < 8 by omega)) (bset_up (P := fun o => decide (E o ≤ n)) (n := j) (m := 8) (by omega))
      refine b_285_92 hI (hs.S hS) hn (by omega) (by omega) (by omega) hj mj.1 (fun h => ?_) (fun h => ?_)
      · rw [show (nI (2 ^ k ||| bset (fun o => decide (E o ≤ n)) j) ||| 0) = nI (2 ^ k ||| bset (fun o => decide (E o ≤ n)) (j + 1)) by rw [bs_f (P := fun o => decide (E o ≤ n)) (decide_eq_false (by omega))]; simp]
        exact ih
      · rw [nI_orbit (by omega), Nat.or_assoc, ← bs_t (P := fun o => decide (E o ≤ n)) (decide_eq_true (by omega))]
        exact ih
    · intro _
      have bb := or_lt (n := 8) (pow_lt2 (show k < 8 by omega)) (bset_up (P := fun o => decide (E o ≤ n)) (n := sn S 1) (m := 8) (by omega))
      refine b_285_92e hI (hs.S hS) hn (by omega) (by omega) ⟨s, hs, ?_⟩
      rw [← bits_eq (P := wnP S k (sn S 8 + n)) (or_lt ik (bset_lt _ _)) (fun o ho => ?_)]
      rw [Nat.testBit_or, Nat.testBit_two_pow, bset_bit, decide_eq_true ho, Bool.true_and]
      have hT : wnP S k (sn S 8 + n) o = true ↔ o = k ∨ E o ≤ n := by
        rw [wnP_t]
        constructor
        · intro h
          rcases h with h | h
          · exact Or.inl h
          · have := hdone _ o ho (by omega) h; right; omega
        · intro h
          rcases h with h | h
          · exact Or.inl h
          · exact Or.inr ((hd.1 o ho (Or.inl (by dsimp only; omega))).mono (by dsimp only; omega))
      by_cases c : o = k ∨ E o ≤ n
      · rw [hT.mpr c]
        rcases c with c | c
        · rw [decide_eq_true c.symm]; rfl
        · rw [decide_eq_true c, Bool.or_true]
      · cases c2 : wnP S k (sn S 8 + n) o
        · rw [decide_eq_false (fun e => c (Or.inl e.symm)), decide_eq_false (fun e => c (Or.inr e))]; rfl
        · exact absurd (hT.mp c2) c
  -- one goes on telling after another
  have main : ∀ s E z5 z6, ST sg s → trM (sn S 1) s E → dkI S k (sn S 8 + 200) (fun o => sn S 8 + E o) (fun _ => false) → E k ≤ 200 → (∀ o, o < sn S 1 → E k ≤ E o) → gW X (d + 10) k_285 24 [some (vR 800), some (vI (nI k)), some (vI (nI n)), some (vI (nI 0)), some (vI (nI k)), z5, z6] [] p s (fun r => ∃ s, ST sg s ∧ r = gRv p s (nI (bset (wnP S k (sn S 8 + n)) (sn S 1)))) := by
    intro s E z5 z6 hs hM hd hEk hmin
    have key := g_upI (P := fun i => ∀ s g E v z5 z6, ST sg s → trM (sn S 1) s E → g < 2 ^ sn S 1 → dkI S k (sn S 8 + 200) (fun o => sn S 8 + E o) (fun o => g.testBit o) → selR S E g (sn S 1) v → cnt (fun o => g.testBit o) (sn S 1) = i → gW X (d + 10) k_285 24 [some (vR 800), some (vI (nI k)), some (vI (nI n)), some (vI (nI g)), some (vI v), z5, z6] [] p s (fun r => ∃ s, ST sg s ∧ r = gRv p s (nI (bset (wnP S k (sn S 8 + n)) (sn S 1))))) (I := fun _ => True) (n := sn S 1) (a := 0) (by omega) trivial ?_ ?_
    · have e0 : (fun o => Nat.testBit 0 o) = fun _ => false := funext (fun o => Nat.zero_testBit o)
      refine key s 0 E (nI k) z5 z6 hs hM (Nat.two_pow_pos _) (by rw [e0]; exact hd) (Or.inr ⟨k, hk, rfl, Nat.zero_testBit k, hEk, fun o ho _ => hmin o ho⟩) ?_
      rw [e0]
      exact cnt_none (n := 0) (fun _ _ => rfl) (Nat.zero_le _)
    · intro i _ hi _ ih s g E v z5 z6 hs hM hg hd hsel hc
      have ih := ih trivial
      rcases hsel with ⟨rfl, hv⟩ | ⟨m, hm, rfl, hb, hEm, hmin⟩
      · exact fin s g E z5 z6 hs hM hg hd hv
      · have mm := hM m (by omega)
        refine b_285_24 hI (hs.S hS) hA (by omega) hn (by omega) (by omega) hEm hm mm.1 (fun s3 h3 => ?_)
        obtain ⟨hs3, C, hC, hP⟩ := h3
        have w3 := hs.tr (ST.sr hs3)
        have hg2 : g ||| 2 ^ m < 2 ^ sn S 1 := or_lt hg (pow_lt2 hm)
        rw [nI_orbit (by omega)]
        refine l_285_44 (g := g ||| 2 ^ m) hI (w3.S hS) (by omega) hn (by omega) hm hEm (hM.eq (hs3 812 (by decide) (by decide))) hC hP (fun s4 E' z5 z6 hs4 hM4 q1 q2 => ?_)
        have w4 : ST sg s4 := w3.tr (fun c _ _ c3 => hs4 c c3)
        have eG : (fun o => (g ||| 2 ^ m).testBit o) = upB (fun o => g.testBit o) m := funext (fun o => by
          rw [tb_or]
          unfold upB
          congr 1
          exact decide_eq_decide.mpr eq_comm)
        have hd4 : dkI S k (sn S 8 + 200) (fun o => sn S 8 + E' o) (fun o => (g ||| 2 ^ m).testBit o) := by
          rw [eG]
          exact hd.step hk hm hb (fun x hx hbx => by have := hmin x hx hbx; omega) (Or.inl (by omega)) q1 q2
        refine g_pure 2 (i' := 83) (lv' := [some (vR 800), some (vI (nI k)), some (vI (nI n)), some (vI (nI (g ||| 2 ^ m))), some (vI (nI m)), z5, z6]) (st' := [vI (nI (g ||| 2 ^ m)), vR 800]) rfl ?_
        refine g_calV rfl (args := [vR 800, vI (nI (g ||| 2 ^ m))]) (rest := []) rfl rfl (Nat.zero_le _) (s_286 (d := d + 7) hI (w4.S hS) (by omega) hM4) (fun q hq => ?_)
        obtain ⟨v, hv, rfl⟩ := hq
        refine gK_v ?_
        refine g_pure 2 (i' := 24) (lv' := [some (vR 800), some (vI (nI k)), some (vI (nI n)), some (vI (nI (g ||| 2 ^ m))), some (vI v), z5, z6]) (st' := []) rfl ?_
        refine ih s4 (g ||| 2 ^ m) E' v z5 z6 w4 hM4 hg2 hd4 hv ?_
        rw [eG, cnt_upB hb, hc, if_pos hm]
    · intro _ s g E v z5 z6 hs hM hg hd hsel hc
      have all := cnt_all hc
      rcases hsel with ⟨rfl, hv⟩ | ⟨m, hm, rfl, hb, hEm, hmin⟩
      · exact fin s g E z5 z6 hs hM hg hd hv
      · rw [all m hm] at hb; cases hb
  have key := g_upI (P := fun j => ∀ s, ST sg s → (∀ i, i < j → s 812 i = 201) → gW X (d + 10) k_285 2 [some (vR 800), some (vI (nI k)), some (vI (nI n)), some (vI (nI j)), none, none, none] [] p s (fun r => ∃ s, ST sg s ∧ r = gRv p s (nI (bset (wnP S k (sn S 8 + n)) (sn S 1))))) (I := fun _ => True) (n := sn S 1) (a := 0) (by omega) trivial ?_ ?_
  · exact key sg (ST.rf _) (fun i hi => absurd hi (Nat.not_lt_zero _))
  · intro j _ hj _ ih s hs hz
    refine b_285_2 hI (hs.S hS) (by omega) hn (by omega) hk (fun h => by omega) (fun _ s5 e5 => ?_)
    refine ih trivial s5 (hs.tr (fun c _ _ c3 => by rw [e5, mu_ne c3])) (fun i hi => ?_)
    by_cases e : i = j
    · subst e; rw [e5, mu_self]
    · rw [e5, mu_idx e]; exact hz i (by omega)
  · intro _ s hs hz
    refine b_285_2 hI (hs.S hS) (by omega) hn (by omega) hk (fun _ s4 e4 => ?_) (fun h => by omega)
    have hM0 : trM (sn S 1) s (fun _ => 201) := fun u hu => ⟨hz u hu, Nat.le_refl _⟩
    have hM4 := hM0.up (u := k) (show stN S k - sn S 8 ≤ 201 by omega)
    rw [← e4] at hM4
    refine main s4 _ none none (hs.tr (fun c _ _ c3 => by rw [e4, mu_ne c3])) hM4 ⟨fun o ho hoo => ?_, ?_, fun _ _ _ _ h => (by cases h), fun _ _ h => (by cases h)⟩ (by rw [if_pos rfl]; omega) (fun o ho => ?_)
    · by_cases e : o = k
      · subst e
        dsimp only
        rw [if_pos rfl, show sn S 8 + (stN S o - sn S 8) = stN S o by omega]
        exact Tld.base
      · dsimp only at hoo
        rw [if_neg e] at hoo
        omega
    · dsimp only
      rw [if_pos rfl]
      omega
    · rw [if_pos rfl]
      by_cases e : o = k
      · rw [if_pos e]; exact Nat.le_refl _
      · rw [if_neg e]; omega
