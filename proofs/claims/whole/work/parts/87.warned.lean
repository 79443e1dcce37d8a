/-! WARNED, in the class (made by wip/whole/gen87.py) -/
theorem b_96_0 {X : Nat × (Nat → Int32)} {d : Nat} {p : Nat → Nat} {sg : Mg} {Q : am_R → Prop} {B : Nat} {S : Nat → Int32} (hI : Inv B S) (hL : cwL 250 sg S) (hD : cwD 200 sg S) {q : Nat} (u_q : q ≤ 255)
    (o1 : gW X (d) k_96 4 [some (vR 8), some (vI (nI q)), some (vI (-1)), some (vI 0), none] [] p sg Q) :
    gW X (d) k_96 0 [some (vR 8), some (vI (nI q)), none, none, none] [] p sg Q := by
  have b0 := hI.b0; have b1 := hI.b1; have b2 := hI.b2; have b3 := hI.b3; have b4 := hI.b4; have b5 := hI.b5; have b6 := hI.b6; have b7 := hI.b7; have b8 := hI.b8; have b9 := hI.b9; have b14 := hI.b14
  refine g_pure 4 (i' := 4) (lv' := [some (vR 8), some (vI (nI q)), some (vI (-1)), some (vI 0), none]) (st' := []) rfl ?_
  exact o1

theorem b_96_m {X : Nat × (Nat → Int32)} {d : Nat} {p : Nat → Nat} {sg : Mg} {Q : am_R → Prop} {B : Nat} {S : Nat → Int32} (hI : Inv B S) (hL : cwL 250 sg S) (hD : cwD 200 sg S) {x : Nat} {q : Nat} {j : Nat} {z4 : Option AV} (u_q : q ≤ 255) (u_j : j ≤ 7) (q1 : x ≤ 2000000000) (q2 : j < sn S 1) (hx : sg 12 j = nI x)
    (o1 : (¬ ((nI q >>> (nI j &&& 31)) &&& 1) = 0) → gW X (d) k_96 4 [some (vR 8), some (vI (nI q)), some (vI (-1)), some (vI (nI (j + 1))), some (vI 0)] [] p sg Q)
    (o2 : (((nI q >>> (nI j &&& 31)) &&& 1) = 0) → (x = 2000000000) → gW X (d) k_96 4 [some (vR 8), some (vI (nI q)), some (vI (-1)), some (vI (nI (j + 1))), some (vI 0)] [] p sg Q)
    (o3 : (((nI q >>> (nI j &&& 31)) &&& 1) = 0) → (¬ (x = 2000000000)) → gW X (d) k_96 4 [some (vR 8), some (vI (nI q)), some (vI (nI j)), some (vI (nI (j + 1))), some (vI 1)] [] p sg Q) :
    gW X (d) k_96 4 [some (vR 8), some (vI (nI q)), some (vI (-1)), some (vI (nI j)), z4] [] p sg Q := by
  have b0 := hI.b0; have b1 := hI.b1; have b2 := hI.b2; have b3 := hI.b3; have b4 := hI.b4; have b5 := hI.b5; have b6 := hI.b6; have b7 := hI.b7; have b8 := hI.b8; have b9 := hI.b9; have b14 := hI.b14
  refine g_pure 5 (i' := 9) (lv' := [some (vR 8), some (vI (nI q)), some (vI (-1)), some (vI (nI j)), z4]) (st' := [vI 1, vR 203, vI (nI j)]) rfl ?_
  refine g_ald rfl (g_A (a := 203) (kd := 1) (n := 6) rfl (by decide)) (by decide) (show 1 = nI 1 from (show (1 : Int32) = nI 1 from rfl)) (by decide) (show _ = S 1 from (hD.cnt (by decide))) ?_
  refine g_if2 (i' := 45) (P := sn S 1 ≤ j) rfl rfl (g_geN (show nI j = nI j from (rfl : nI j = nI j)) (show S 1 = nI (sn S 1) from (hI.c1)) (by omega) (by omega)) (fun h1 => absurd h1 (by omega)) (fun _ => ?_)
  refine g_pure 5 (i' := 16) (lv' := [some (vR 8), some (vI (nI q)), some (vI (-1)), some (vI (nI j)), z4]) (st' := [vI ((nI q >>> (nI j &&& 31)) &&& 1)]) rfl ?_
  refine g_if1 (i' := 25) (P := ¬ ((nI q >>> (nI j &&& 31)) &&& 1) = 0) rfl rfl Iff.rfl (fun h2 => ?_) (fun h2 => ?_)
  · refine g_pure 3 (i' := 28) (lv' := [some (vR 8), some (vI (nI q)), some (vI (-1)), some (vI (nI j)), some (vI 0)]) (st' := [vI 0]) rfl ?_
    refine g_if1 (i' := 43) (P := 0 = 0) rfl rfl (g_eqN (show 0 = nI 0 from (show (0 : Int32) = nI 0 from rfl)) (show 0 = nI 0 from (show (0 : Int32) = nI 0 from rfl)) (by omega) (by omega)) (fun _ => ?_) (fun h3 => absurd (by omega) h3)
    refine g_pure 2 (i' := 4) (lv' := [some (vR 8), some (vI (nI q)), some (vI (-1)), some (vI (nI j + 1)), some (vI 0)]) (st' := []) rfl ?_
    refine gW_eq (lv' := [some (vR 8), some (vI (nI q)), some (vI (-1)), some (vI (nI (j + 1))), some (vI 0)]) (st' := []) (by rw [(show (nI j + 1) = nI (j + 1) from ((g_add (rfl : nI j = nI j) (show (1 : Int32) = nI 1 from rfl))).trans (congrArg nI (by omega)))]) rfl rfl ?_
    exact o1 h2
  · have h2 := Classical.not_not.mp h2
    refine g_pure 3 (i' := 20) (lv' := [some (vR 8), some (vI (nI q)), some (vI (-1)), some (vI (nI j)), z4]) (st' := [vI (nI j), vR 12]) rfl ?_
    refine g_ald rfl (g_A (a := 12) (kd := 1) (n := 8) rfl (by decide)) (by decide) (show nI j = nI j from (rfl : nI j = nI j)) (by omega) (show _ = nI x from hx) ?_
    refine g_pure 1 (i' := 22) (lv' := [some (vR 8), some (vI (nI q)), some (vI (-1)), some (vI (nI j)), z4]) (st' := [vI 2000000000, vI (nI x)]) rfl ?_
    refine g_if2 (i' := 25) (P := x = 2000000000) rfl rfl (g_eqN (show nI x = nI x from (rfl : nI x = nI x)) (show 2000000000 = nI 2000000000 from (show (2000000000 : Int32) = nI 2000000000 from rfl)) (by omega) (by omega)) (fun h4 => ?_) (fun h4 => ?_)
    · refine g_pure 3 (i' := 28) (lv' := [some (vR 8), some (vI (nI q)), some (vI (-1)), some (vI (nI j)), some (vI 0)]) (st' := [vI 0]) rfl ?_
      refine g_if1 (i' := 43) (P := 0 = 0) rfl rfl (g_eqN (show 0 = nI 0 from (show (0 : Int32) = nI 0 from rfl)) (show 0 = nI 0 from (show (0 : Int32) = nI 0 from rfl)) (by omega) (by omega)) (fun _ => ?_) (fun h5 => absurd (by omega) h5)
      refine g_pure 2 (i' := 4) (lv' := [some (vR 8), some (vI (nI q)), some (vI (-1)), some (vI (nI j + 1)), some (vI 0)]) (st' := []) rfl ?_
      refine gW_eq (lv' := [some (vR 8), some (vI (nI q)), some (vI (-1)), some (vI (nI (j + 1))), some (vI 0)]) (st' := []) (by rw [(show (nI j + 1) = nI (j + 1) from ((g_add (rfl : nI j = nI j) (show (1 : Int32) = nI 1 from rfl))).trans (congrArg nI (by omega)))]) rfl rfl ?_
      exact o2 h2 h4
    · refine g_pure 4 (i' := 28) (lv' := [some (vR 8), some (vI (nI q)), some (vI (-1)), some (vI (nI j)), some (vI 1)]) (st' := [vI 1]) rfl ?_
      refine g_if1 (i' := 43) (P := 1 = 0) rfl rfl (g_eqN (show 1 = nI 1 from (show (1 : Int32) = nI 1 from rfl)) (show 0 = nI 0 from (show (0 : Int32) = nI 0 from rfl)) (by omega) (by omega)) (fun h6 => absurd h6 (by omega)) (fun _ => ?_)
      refine g_pure 2 (i' := 31) (lv' := [some (vR 8), some (vI (nI q)), some (vI (-1)), some (vI (nI j)), some (vI 1)]) (st' := [vI (-1), vI (-1)]) rfl ?_
      refine g_if2 (i' := 41) (P := ((-1) : Int32) = (-1)) rfl rfl Iff.rfl (fun _ => ?_) (fun h7 => absurd (by decide) h7)
      refine g_pure 4 (i' := 4) (lv' := [some (vR 8), some (vI (nI q)), some (vI (nI j)), some (vI (nI j + 1)), some (vI 1)]) (st' := []) rfl ?_
      refine gW_eq (lv' := [some (vR 8), some (vI (nI q)), some (vI (nI j)), some (vI (nI (j + 1))), some (vI 1)]) (st' := []) (by rw [(show (nI j + 1) = nI (j + 1) from ((g_add (rfl : nI j = nI j) (show (1 : Int32) = nI 1 from rfl))).trans (congrArg nI (by omega)))]) rfl rfl ?_
      exact o3 h2 h4

theorem b_96_b {X : Nat × (Nat → Int32)} {d : Nat} {p : Nat → Nat} {sg : Mg} {Q : am_R → Prop} {B : Nat} {S : Nat → Int32} (hI : Inv B S) (hL : cwL 250 sg S) (hD : cwD 200 sg S) {x y : Nat} {q : Nat} {b : Nat} {j : Nat} {z4 : Option AV} (u_q : q ≤ 255) (u_b : b ≤ 7) (u_j : j ≤ 7) (q1 : x ≤ 2000000000) (q2 : y ≤ 2000000000) (q3 : j < sn S 1) (hx : sg 12 j = nI x) (hy : sg 12 b = nI y)
    (o1 : (¬ ((nI q >>> (nI j &&& 31)) &&& 1) = 0) → gW X (d) k_96 4 [some (vR 8), some (vI (nI q)), some (vI (nI b)), some (vI (nI (j + 1))), some (vI 0)] [] p sg Q)
    (o2 : (((nI q >>> (nI j &&& 31)) &&& 1) = 0) → (x = 2000000000) → gW X (d) k_96 4 [some (vR 8), some (vI (nI q)), some (vI (nI b)), some (vI (nI (j + 1))), some (vI 0)] [] p sg Q)
    (o3 : (((nI q >>> (nI j &&& 31)) &&& 1) = 0) → (¬ (x = 2000000000)) → (y ≤ x) → gW X (d) k_96 4 [some (vR 8), some (vI (nI q)), some (vI (nI b)), some (vI (nI (j + 1))), some (vI 1)] [] p sg Q)
    (o4 : (((nI q >>> (nI j &&& 31)) &&& 1) = 0) → (¬ (x = 2000000000)) → (¬ (y ≤ x)) → gW X (d) k_96 4 [some (vR 8), some (vI (nI q)), some (vI (nI j)), some (vI (nI (j + 1))), some (vI 1)] [] p sg Q) :
    gW X (d) k_96 4 [some (vR 8), some (vI (nI q)), some (vI (nI b)), some (vI (nI j)), z4] [] p sg Q := by
  have b0 := hI.b0; have b1 := hI.b1; have b2 := hI.b2; have b3 := hI.b3; have b4 := hI.b4; have b5 := hI.b5; have b6 := hI.b6; have b7 := hI.b7; have b8 := hI.b8; have b9 := hI.b9; have b14 := hI.b14
  refine g_pure 5 (i' := 9) (lv' := [some (vR 8), some (vI (nI q)), some (vI (nI b)), some (vI (nI j)), z4]) (st' := [vI 1, vR 203, vI (nI j)]) rfl ?_
  refine g_ald rfl (g_A (a := 203) (kd := 1) (n := 6) rfl (by decide)) (by decide) (show 1 = nI 1 from (show (1 : Int32) = nI 1 from rfl)) (by decide) (show _ = S 1 from (hD.cnt (by decide))) ?_
  refine g_if2 (i' := 45) (P := sn S 1 ≤ j) rfl rfl (g_geN (show nI j = nI j from (rfl : nI j = nI j)) (show S 1 = nI (sn S 1) from (hI.c1)) (by omega) (by omega)) (fun h1 => absurd h1 (by omega)) (fun _ => ?_)
  refine g_pure 5 (i' := 16) (lv' := [some (vR 8), some (vI (nI q)), some (vI (nI b)), some (vI (nI j)), z4]) (st' := [vI ((nI q >>> (nI j &&& 31)) &&& 1)]) rfl ?_
  refine g_if1 (i' := 25) (P := ¬ ((nI q >>> (nI j &&& 31)) &&& 1) = 0) rfl rfl Iff.rfl (fun h2 => ?_) (fun h2 => ?_)
  · refine g_pure 3 (i' := 28) (lv' := [some (vR 8), some (vI (nI q)), some (vI (nI b)), some (vI (nI j)), some (vI 0)]) (st' := [vI 0]) rfl ?_
    refine g_if1 (i' := 43) (P := 0 = 0) rfl rfl (g_eqN (show 0 = nI 0 from (show (0 : Int32) = nI 0 from rfl)) (show 0 = nI 0 from (show (0 : Int32) = nI 0 from rfl)) (by omega) (by omega)) (fun _ => ?_) (fun h3 => absurd (by omega) h3)
    refine g_pure 2 (i' := 4) (lv' := [some (vR 8), some (vI (nI q)), some (vI (nI b)), some (vI (nI j + 1)), some (vI 0)]) (st' := []) rfl ?_
    refine gW_eq (lv' := [some (vR 8), some (vI (nI q)), some (vI (nI b)), some (vI (nI (j + 1))), some (vI 0)]) (st' := []) (by rw [(show (nI j + 1) = nI (j + 1) from ((g_add (rfl : nI j = nI j) (show (1 : Int32) = nI 1 from rfl))).trans (congrArg nI (by omega)))]) rfl rfl ?_
    exact o1 h2
  · have h2 := Classical.not_not.mp h2
    refine g_pure 3 (i' := 20) (lv' := [some (vR 8), some (vI (nI q)), some (vI (nI b)), some (vI (nI j)), z4]) (st' := [vI (nI j), vR 12]) rfl ?_
    refine g_ald rfl (g_A (a := 12) (kd := 1) (n := 8) rfl (by decide)) (by decide) (show nI j = nI j from (rfl : nI j = nI j)) (by omega) (show _ = nI x from hx) ?_
    refine g_pure 1 (i' := 22) (lv' := [some (vR 8), some (vI (nI q)), some (vI (nI b)), some (vI (nI j)), z4]) (st' := [vI 2000000000, vI (nI x)]) rfl ?_
    refine g_if2 (i' := 25) (P := x = 2000000000) rfl rfl (g_eqN (show nI x = nI x from (rfl : nI x = nI x)) (show 2000000000 = nI 2000000000 from (show (2000000000 : Int32) = nI 2000000000 from rfl)) (by omega) (by omega)) (fun h4 => ?_) (fun h4 => ?_)
    · refine g_pure 3 (i' := 28) (lv' := [some (vR 8), some (vI (nI q)), some (vI (nI b)), some (vI (nI j)), some (vI 0)]) (st' := [vI 0]) rfl ?_
      refine g_if1 (i' := 43) (P := 0 = 0) rfl rfl (g_eqN (show 0 = nI 0 from (show (0 : Int32) = nI 0 from rfl)) (show 0 = nI 0 from (show (0 : Int32) = nI 0 from rfl)) (by omega) (by omega)) (fun _ => ?_) (fun h5 => absurd (by omega) h5)
      refine g_pure 2 (i' := 4) (lv' := [some (vR 8), some (vI (nI q)), some (vI (nI b)), some (vI (nI j + 1)), some (vI 0)]) (st' := []) rfl ?_
      refine gW_eq (lv' := [some (vR 8), some (vI (nI q)), some (vI (nI b)), some (vI (nI (j + 1))), some (vI 0)]) (st' := []) (by rw [(show (nI j + 1) = nI (j + 1) from ((g_add (rfl : nI j = nI j) (show (1 : Int32) = nI 1 from rfl))).trans (congrArg nI (by omega)))]) rfl rfl ?_
      exact o2 h2 h4
    · refine g_pure 4 (i' := 28) (lv' := [some (vR 8), some (vI (nI q)), some (vI (nI b)), some (vI (nI j)), some (vI 1)]) (st' := [vI 1]) rfl ?_
      refine g_if1 (i' := 43) (P := 1 = 0) rfl rfl (g_eqN (show 1 = nI 1 from (show (1 : Int32) = nI 1 from rfl)) (show 0 = nI 0 from (show (0 : Int32) = nI 0 from rfl)) (by omega) (by omega)) (fun h6 => absurd h6 (by omega)) (fun _ => ?_)
      refine g_pure 2 (i' := 31) (lv' := [some (vR 8), some (vI (nI q)), some (vI (nI b)), some (vI (nI j)), some (vI 1)]) (st' := [vI (-1), vI (nI b)]) rfl ?_
      refine g_if2 (i' := 41) (P := nI b = (-1)) rfl rfl Iff.rfl (fun h7 => absurd h7 (nI_m1 (by omega))) (fun _ => ?_)
      refine g_pure 3 (i' := 35) (lv' := [some (vR 8), some (vI (nI q)), some (vI (nI b)), some (vI (nI j)), some (vI 1)]) (st' := [vI (nI j), vR 12]) rfl ?_
      refine g_ald rfl (g_A (a := 12) (kd := 1) (n := 8) rfl (by decide)) (by decide) (show nI j = nI j from (rfl : nI j = nI j)) (by omega) (show _ = nI x from hx) ?_
      refine g_pure 3 (i' := 39) (lv' := [some (vR 8), some (vI (nI q)), some (vI (nI b)), some (vI (nI j)), some (vI 1)]) (st' := [vI (nI b), vR 12, vI (nI x)]) rfl ?_
      refine g_ald rfl (g_A (a := 12) (kd := 1) (n := 8) rfl (by decide)) (by decide) (show nI b = nI b from (rfl : nI b = nI b)) (by omega) (show _ = nI y from hy) ?_
      refine g_if2 (i' := 43) (P := y ≤ x) rfl rfl (g_geN (show nI x = nI x from (rfl : nI x = nI x)) (show nI y = nI y from (rfl : nI y = nI y)) (by omega) (by omega)) (fun h8 => ?_) (fun h8 => ?_)
      · refine g_pure 2 (i' := 4) (lv' := [some (vR 8), some (vI (nI q)), some (vI (nI b)), some (vI (nI j + 1)), some (vI 1)]) (st' := []) rfl ?_
        refine gW_eq (lv' := [some (vR 8), some (vI (nI q)), some (vI (nI b)), some (vI (nI (j + 1))), some (vI 1)]) (st' := []) (by rw [(show (nI j + 1) = nI (j + 1) from ((g_add (rfl : nI j = nI j) (show (1 : Int32) = nI 1 from rfl))).trans (congrArg nI (by omega)))]) rfl rfl ?_
        exact o3 h2 h4 h8
      · refine g_pure 4 (i' := 4) (lv' := [some (vR 8), some (vI (nI q)), some (vI (nI j)), some (vI (nI j + 1)), some (vI 1)]) (st' := []) rfl ?_
        refine gW_eq (lv' := [some (vR 8), some (vI (nI q)), some (vI (nI j)), some (vI (nI (j + 1))), some (vI 1)]) (st' := []) (by rw [(show (nI j + 1) = nI (j + 1) from ((g_add (rfl : nI j = nI j) (show (1 : Int32) = nI 1 from rfl))).trans (congrArg nI (by omega)))]) rfl rfl ?_
        exact o4 h2 h4 h8

theorem b_96_e {X : Nat × (Nat → Int32)} {d : Nat} {p : Nat → Nat} {sg : Mg} {Q : am_R → Prop} {B : Nat} {S : Nat → Int32} (hI : Inv B S) (hL : cwL 250 sg S) (hD : cwD 200 sg S) {q : Nat} {b : Int32} {z4 : Option AV} (u_q : q ≤ 255) (u_snS1 : sn S 1 ≤ 8)
    (o1 : Q (gRv p sg b)) :
    gW X (d) k_96 4 [some (vR 8), some (vI (nI q)), some (vI b), some (vI (nI (sn S 1))), z4] [] p sg Q := by
  have b0 := hI.b0; have b1 := hI.b1; have b2 := hI.b2; have b3 := hI.b3; have b4 := hI.b4; have b5 := hI.b5; have b6 := hI.b6; have b7 := hI.b7; have b8 := hI.b8; have b9 := hI.b9; have b14 := hI.b14
  refine g_pure 5 (i' := 9) (lv' := [some (vR 8), some (vI (nI q)), some (vI b), some (vI (nI (sn S 1))), z4]) (st' := [vI 1, vR 203, vI (nI (sn S 1))]) rfl ?_
  refine g_ald rfl (g_A (a := 203) (kd := 1) (n := 6) rfl (by decide)) (by decide) (show 1 = nI 1 from (show (1 : Int32) = nI 1 from rfl)) (by decide) (show _ = S 1 from (hD.cnt (by decide))) ?_
  refine g_if2 (i' := 45) (P := sn S 1 ≤ sn S 1) rfl rfl (g_geN (show nI (sn S 1) = nI (sn S 1) from (rfl : nI (sn S 1) = nI (sn S 1))) (show S 1 = nI (sn S 1) from (hI.c1)) (by omega) (by omega)) (fun _ => ?_) (fun h1 => absurd (Nat.le_refl _) h1)
  refine g_pure 1 (i' := 46) (lv' := [some (vR 8), some (vI (nI q)), some (vI b), some (vI (nI (sn S 1))), z4]) (st' := [vI b]) rfl ?_
  refine g_iret rfl ?_
  exact o1

theorem b_95_21 {X : Nat × (Nat → Int32)} {d : Nat} {p : Nat → Nat} {sg : Mg} {Q : am_R → Prop} {B : Nat} {S : Nat → Int32} (hI : Inv B S) (hL : cwL 250 sg S) (hD : cwD 200 sg S) {z1 : Option AV} {l : Nat} {g : Nat} {i : Nat} {z6 : Option AV} {z7 : Option AV} {z8 : Option AV} (u_l : l ≤ 200400) (u_snS1 : sn S 1 ≤ 8) (u_g : g ≤ 255) (u_i : i ≤ 8)
    (o1 : (sn S 1 ≤ i) → Q (gRv p sg (nI g)))
    (o2 : (¬ (sn S 1 ≤ i)) → gW X (d + 7) k_95 24 [some (vR 8), z1, some (vI (nI l)), some (vI (nI (sn S 1))), some (vI (nI g)), some (vI (nI i)), z6, z7, z8] [] p sg Q) :
    gW X (d + 7) k_95 21 [some (vR 8), z1, some (vI (nI l)), some (vI (nI (sn S 1))), some (vI (nI g)), some (vI (nI i)), z6, z7, z8] [] p sg Q := by
  have b0 := hI.b0; have b1 := hI.b1; have b2 := hI.b2; have b3 := hI.b3; have b4 := hI.b4; have b5 := hI.b5; have b6 := hI.b6; have b7 := hI.b7; have b8 := hI.b8; have b9 := hI.b9; have b14 := hI.b14
  refine g_pure 2 (i' := 23) (lv' := [some (vR 8), z1, some (vI (nI l)), some (vI (nI (sn S 1))), some (vI (nI g)), some (vI (nI i)), z6, z7, z8]) (st' := [vI (nI (sn S 1)), vI (nI i)]) rfl ?_
  refine g_if2 (i' := 83) (P := sn S 1 ≤ i) rfl rfl (g_geN (show nI i = nI i from (rfl : nI i = nI i)) (show nI (sn S 1) = nI (sn S 1) from (rfl : nI (sn S 1) = nI (sn S 1))) (by omega) (by omega)) (fun h1 => ?_) (fun h1 => ?_)
  · refine g_pure 1 (i' := 84) (lv' := [some (vR 8), z1, some (vI (nI l)), some (vI (nI (sn S 1))), some (vI (nI g)), some (vI (nI i)), z6, z7, z8]) (st' := [vI (nI g)]) rfl ?_
    refine g_iret rfl ?_
    exact o1 h1
  · exact o2 h1

theorem b_95_x {X : Nat × (Nat → Int32)} {d : Nat} {p : Nat → Nat} {sg : Mg} {Q : am_R → Prop} {B : Nat} {S : Nat → Int32} (hI : Inv B S) (hL : cwL 250 sg S) (hD : cwD 200 sg S) {z1 : Option AV} {l : Nat} {g : Nat} {i : Nat} {z7 : Option AV} {z8 : Option AV} (u_l : l ≤ 200400) (u_snS1 : sn S 1 ≤ 8) (u_g : g ≤ 255) (u_i : i ≤ 8)
    (o1 : Q (gRv p sg (nI g))) :
    gW X (d + 7) k_95 28 [some (vR 8), z1, some (vI (nI l)), some (vI (nI (sn S 1))), some (vI (nI g)), some (vI (nI i)), some (vI (-1)), z7, z8] [] p sg Q := by
  have b0 := hI.b0; have b1 := hI.b1; have b2 := hI.b2; have b3 := hI.b3; have b4 := hI.b4; have b5 := hI.b5; have b6 := hI.b6; have b7 := hI.b7; have b8 := hI.b8; have b9 := hI.b9; have b14 := hI.b14
  refine g_pure 2 (i' := 30) (lv' := [some (vR 8), z1, some (vI (nI l)), some (vI (nI (sn S 1))), some (vI (nI g)), some (vI (nI i)), some (vI (-1)), z7, z8]) (st' := [vI (-1), vI (-1)]) rfl ?_
  refine g_if2 (i' := 32) (P := ¬ ((-1) : Int32) = (-1)) rfl rfl Iff.rfl (fun h1 => absurd h1 (by decide)) (fun _ => ?_)
  refine g_pure 2 (i' := 84) (lv' := [some (vR 8), z1, some (vI (nI l)), some (vI (nI (sn S 1))), some (vI (nI g)), some (vI (nI i)), some (vI (-1)), z7, z8]) (st' := [vI (nI g)]) rfl ?_
  refine g_iret rfl ?_
  exact o1

theorem b_95_m {X : Nat × (Nat → Int32)} {d : Nat} {p : Nat → Nat} {sg : Mg} {Q : am_R → Prop} {B : Nat} {S : Nat → Int32} (hI : Inv B S) (hL : cwL 250 sg S) (hD : cwD 200 sg S) {y : Nat} (hW : LW S sg) (hB : bOK S sg) {z1 : Option AV} {l : Nat} {g : Nat} {i : Nat} {m : Nat} {z7 : Option AV} {z8 : Option AV} (u_l : l ≤ 200400) (u_snS1 : sn S 1 ≤ 8) (u_g : g ≤ 255) (u_i : i ≤ 8) (u_m : m ≤ 7) (q1 : y ≤ 200405) (q2 : sn S 8 ≤ y) (q3 : m < sn S 1) (q4 : l ≤ sn S 8 + 400) (hy : sg 12 m = nI y)
    (o1 : ∀ s3 : Mg, (SF sg s3 ∧ bOK S s3 ∧ ∃ F, soM s3 F ∧ spP S m (hmN S m) y l F) → gW X (d + 7) k_95 51 [some (vR 8), z1, some (vI (nI l)), some (vI (nI (sn S 1))), some (vI (nI g ||| (1 <<< (nI m &&& 31)))), some (vI (nI i)), some (vI (nI m)), some (vI 0), z8] [] p s3 Q) :
    gW X (d + 7) k_95 28 [some (vR 8), z1, some (vI (nI l)), some (vI (nI (sn S 1))), some (vI (nI g)), some (vI (nI i)), some (vI (nI m)), z7, z8] [] p sg Q := by
  have b0 := hI.b0; have b1 := hI.b1; have b2 := hI.b2; have b3 := hI.b3; have b4 := hI.b4; have b5 := hI.b5; have b6 := hI.b6; have b7 := hI.b7; have b8 := hI.b8; have b9 := hI.b9; have b14 := hI.b14
  refine g_pure 2 (i' := 30) (lv' := [some (vR 8), z1, some (vI (nI l)), some (vI (nI (sn S 1))), some (vI (nI g)), some (vI (nI i)), some (vI (nI m)), z7, z8]) (st' := [vI (-1), vI (nI m)]) rfl ?_
  refine g_if2 (i' := 32) (P := ¬ nI m = (-1)) rfl rfl Iff.rfl (fun _ => ?_) (fun h1 => absurd (nI_m1 (by omega)) h1)
  refine g_pure 10 (i' := 42) (lv' := [some (vR 8), z1, some (vI (nI l)), some (vI (nI (sn S 1))), some (vI (nI g ||| (1 <<< (nI m &&& 31)))), some (vI (nI i)), some (vI (nI m)), z7, z8]) (st' := [vI (nI m), vR 8, vI (nI m), vR 8]) rfl ?_
  refine g_cV1 rfl (args := [vR 8, vI (nI m)]) (rest := [vI (nI m), vR 8]) rfl rfl rfl (s_84 (d := d + 5) hI hL hD (by omega)) ?_
  have t2 := (hm_ok hI (k := m) (by omega)).1
  refine g_pure 3 (i' := 46) (lv' := [some (vR 8), z1, some (vI (nI l)), some (vI (nI (sn S 1))), some (vI (nI g ||| (1 <<< (nI m &&& 31)))), some (vI (nI i)), some (vI (nI m)), z7, z8]) (st' := [vI (nI m), vR 12, vI (nI (hmN S m)), vI (nI m), vR 8]) rfl ?_
  refine g_ald rfl (g_A (a := 12) (kd := 1) (n := 8) rfl (by decide)) (by decide) (show nI m = nI m from (rfl : nI m = nI m)) (by omega) (show _ = nI y from hy) ?_
  refine g_pure 1 (i' := 48) (lv' := [some (vR 8), z1, some (vI (nI l)), some (vI (nI (sn S 1))), some (vI (nI g ||| (1 <<< (nI m &&& 31)))), some (vI (nI i)), some (vI (nI m)), z7, z8]) (st' := [vI (nI l), vI (nI y), vI (nI (hmN S m)), vI (nI m), vR 8]) rfl ?_
  refine g_cV0E rfl (args := [vR 8, vI (nI m), vI (nI (hmN S m)), vI (nI y), vI (nI l)]) (rest := []) rfl rfl rfl (s_87 (d := d + 1) hI hL hD hW hB (by omega) (by omega) (by omega) (by omega) (by omega)) (fun s3 es3 => ?_)
  have hLs3 : cwL 250 s3 S := es3.1.L hL
  have hDs3 : cwD 200 s3 S := es3.1.D hD
  have hWs3 : LW S s3 := es3.1.W hW
  refine g_pure 2 (i' := 51) (lv' := [some (vR 8), z1, some (vI (nI l)), some (vI (nI (sn S 1))), some (vI (nI g ||| (1 <<< (nI m &&& 31)))), some (vI (nI i)), some (vI (nI m)), some (vI 0), z8]) (st' := []) rfl ?_
  exact o1 s3 es3

theorem b_95_51 {X : Nat × (Nat → Int32)} {d : Nat} {p : Nat → Nat} {sg : Mg} {Q : am_R → Prop} {B : Nat} {S : Nat → Int32} (hI : Inv B S) (hL : cwL 250 sg S) (hD : cwD 200 sg S) {f y : Nat} {z1 : Option AV} {l : Nat} {g : Nat} {i : Nat} {m : Nat} {j : Nat} {z8 : Option AV} (u_l : l ≤ 200400) (u_snS1 : sn S 1 ≤ 8) (u_g : g ≤ 255) (u_i : i ≤ 8) (u_m : m ≤ 7) (u_j : j ≤ 7) (q1 : f ≤ 2000000000) (q2 : y ≤ 2000000000) (q3 : j < sn S 1) (hf : sg 10 (hmN S j) = nI f) (hy : sg 12 j = nI y)
    (o1 : (l < max f (stN S j)) → gW X (d + 7) k_95 51 [some (vR 8), z1, some (vI (nI l)), some (vI (nI (sn S 1))), some (vI (nI g)), some (vI (nI i)), some (vI (nI m)), some (vI (nI (j + 1))), some (vI (nI (max f (stN S j))))] [] p sg Q)
    (o2 : (¬ (l < max f (stN S j))) → (y ≤ max f (stN S j)) → gW X (d + 7) k_95 51 [some (vR 8), z1, some (vI (nI l)), some (vI (nI (sn S 1))), some (vI (nI g)), some (vI (nI i)), some (vI (nI m)), some (vI (nI (j + 1))), some (vI (nI (max f (stN S j))))] [] p sg Q)
    (o3 : (¬ (l < max f (stN S j))) → (¬ (y ≤ max f (stN S j))) → ∀ s9 : Mg, s9 = mu sg 12 j (nI (max f (stN S j))) → gW X (d + 7) k_95 51 [some (vR 8), z1, some (vI (nI l)), some (vI (nI (sn S 1))), some (vI (nI g)), some (vI (nI i)), some (vI (nI m)), some (vI (nI (j + 1))), some (vI (nI (max f (stN S j))))] [] p s9 Q) :
    gW X (d + 7) k_95 51 [some (vR 8), z1, some (vI (nI l)), some (vI (nI (sn S 1))), some (vI (nI g)), some (vI (nI i)), some (vI (nI m)), some (vI (nI j)), z8] [] p sg Q := by
  have b0 := hI.b0; have b1 := hI.b1; have b2 := hI.b2; have b3 := hI.b3; have b4 := hI.b4; have b5 := hI.b5; have b6 := hI.b6; have b7 := hI.b7; have b8 := hI.b8; have b9 := hI.b9; have b14 := hI.b14
  refine g_pure 2 (i' := 53) (lv' := [some (vR 8), z1, some (vI (nI l)), some (vI (nI (sn S 1))), some (vI (nI g)), some (vI (nI i)), some (vI (nI m)), some (vI (nI j)), z8]) (st' := [vI (nI (sn S 1)), vI (nI j)]) rfl ?_
  refine g_if2 (i' := 81) (P := sn S 1 ≤ j) rfl rfl (g_geN (show nI j = nI j from (rfl : nI j = nI j)) (show nI (sn S 1) = nI (sn S 1) from (rfl : nI (sn S 1) = nI (sn S 1))) (by omega) (by omega)) (fun h1 => absurd h1 (by omega)) (fun _ => ?_)
  refine g_pure 4 (i' := 58) (lv' := [some (vR 8), z1, some (vI (nI l)), some (vI (nI (sn S 1))), some (vI (nI g)), some (vI (nI i)), some (vI (nI m)), some (vI (nI j)), z8]) (st' := [vI (nI j), vR 8, vR 10]) rfl ?_
  refine g_cV1 rfl (args := [vR 8, vI (nI j)]) (rest := [vR 10]) rfl rfl rfl (s_84 (d := d + 5) hI hL hD (by omega)) ?_
  have t2 := (hm_ok hI (k := j) (by omega)).1
  refine g_ald rfl (g_A (a := 10) (kd := 1) (n := 6) rfl (by decide)) (by decide) (show nI (hmN S j) = nI (hmN S j) from (rfl : nI (hmN S j) = nI (hmN S j))) (by omega) (show _ = nI f from hf) ?_
  refine g_pure 2 (i' := 62) (lv' := [some (vR 8), z1, some (vI (nI l)), some (vI (nI (sn S 1))), some (vI (nI g)), some (vI (nI i)), some (vI (nI m)), some (vI (nI j)), z8]) (st' := [vI (nI j), vR 8, vI (nI f)]) rfl ?_
  refine g_cV1 rfl (args := [vR 8, vI (nI j)]) (rest := [vI (nI f)]) rfl rfl rfl (s_86 (d := d + 5) hI hL hD (by omega)) ?_
  have t3 := (hm_ok hI (k := j) (by omega)).2.1
  have t4 := (hm_ok hI (k := j) (by omega)).2.2.1
  refine g_cS1 rfl (args := [vI (nI f), vI (nI (stN S j))]) (rest := []) rfl rfl rfl (s_316n (d := d + 6) (by omega) (by omega)) ?_
  have t5 := Nat.le_max_left f (stN S j)
  have t6 := Nat.le_max_right f (stN S j)
  refine g_pure 3 (i' := 67) (lv' := [some (vR 8), z1, some (vI (nI l)), some (vI (nI (sn S 1))), some (vI (nI g)), some (vI (nI i)), some (vI (nI m)), some (vI (nI j)), some (vI (nI (max f (stN S j))))]) (st' := [vI (nI l), vI (nI (max f (stN S j)))]) rfl ?_
  refine g_if2 (i' := 79) (P := l < max f (stN S j)) rfl rfl (g_gtN (show nI (max f (stN S j)) = nI (max f (stN S j)) from (rfl : nI (max f (stN S j)) = nI (max f (stN S j)))) (show nI l = nI l from (rfl : nI l = nI l)) (by omega) (by omega)) (fun h7 => ?_) (fun h7 => ?_)
  · refine g_pure 2 (i' := 51) (lv' := [some (vR 8), z1, some (vI (nI l)), some (vI (nI (sn S 1))), some (vI (nI g)), some (vI (nI i)), some (vI (nI m)), some (vI (nI j + 1)), some (vI (nI (max f (stN S j))))]) (st' := []) rfl ?_
    refine gW_eq (lv' := [some (vR 8), z1, some (vI (nI l)), some (vI (nI (sn S 1))), some (vI (nI g)), some (vI (nI i)), some (vI (nI m)), some (vI (nI (j + 1))), some (vI (nI (max f (stN S j))))]) (st' := []) (by rw [(show (nI j + 1) = nI (j + 1) from ((g_add (rfl : nI j = nI j) (show (1 : Int32) = nI 1 from rfl))).trans (congrArg nI (by omega)))]) rfl rfl ?_
    exact o1 h7
  · refine g_pure 4 (i' := 72) (lv' := [some (vR 8), z1, some (vI (nI l)), some (vI (nI (sn S 1))), some (vI (nI g)), some (vI (nI i)), some (vI (nI m)), some (vI (nI j)), some (vI (nI (max f (stN S j))))]) (st' := [vI (nI j), vR 12, vI (nI (max f (stN S j)))]) rfl ?_
    refine g_ald rfl (g_A (a := 12) (kd := 1) (n := 8) rfl (by decide)) (by decide) (show nI j = nI j from (rfl : nI j = nI j)) (by omega) (show _ = nI y from hy) ?_
    refine g_if2 (i' := 79) (P := y ≤ max f (stN S j)) rfl rfl (g_geN (show nI (max f (stN S j)) = nI (max f (stN S j)) from (rfl : nI (max f (stN S j)) = nI (max f (stN S j)))) (show nI y = nI y from (rfl : nI y = nI y)) (by omega) (by omega)) (fun h8 => ?_) (fun h8 => ?_)
    · refine g_pure 2 (i' := 51) (lv' := [some (vR 8), z1, some (vI (nI l)), some (vI (nI (sn S 1))), some (vI (nI g)), some (vI (nI i)), some (vI (nI m)), some (vI (nI j + 1)), some (vI (nI (max f (stN S j))))]) (st' := []) rfl ?_
      refine gW_eq (lv' := [some (vR 8), z1, some (vI (nI l)), some (vI (nI (sn S 1))), some (vI (nI g)), some (vI (nI i)), some (vI (nI m)), some (vI (nI (j + 1))), some (vI (nI (max f (stN S j))))]) (st' := []) (by rw [(show (nI j + 1) = nI (j + 1) from ((g_add (rfl : nI j = nI j) (show (1 : Int32) = nI 1 from rfl))).trans (congrArg nI (by omega)))]) rfl rfl ?_
      exact o2 h7 h8
    · refine g_pure 4 (i' := 78) (lv' := [some (vR 8), z1, some (vI (nI l)), some (vI (nI (sn S 1))), some (vI (nI g)), some (vI (nI i)), some (vI (nI m)), some (vI (nI j)), some (vI (nI (max f (stN S j))))]) (st' := [vI (nI (max f (stN S j))), vI (nI j), vR 12]) rfl ?_
      refine g_ast rfl (g_A (a := 12) (kd := 1) (n := 8) rfl (by decide)) (by decide) (show nI j = nI j from (rfl : nI j = nI j)) (by omega) ?_
      refine g_setv (fun s9 es9 => ?_)
      have hLs9 : cwL 250 s9 S := by rw [es9]; exact hL.out (by decide)
      have hDs9 : cwD 200 s9 S := by rw [es9]; exact hD.out (by decide)
      refine g_pure 2 (i' := 51) (lv' := [some (vR 8), z1, some (vI (nI l)), some (vI (nI (sn S 1))), some (vI (nI g)), some (vI (nI i)), some (vI (nI m)), some (vI (nI j + 1)), some (vI (nI (max f (stN S j))))]) (st' := []) rfl ?_
      refine gW_eq (lv' := [some (vR 8), z1, some (vI (nI l)), some (vI (nI (sn S 1))), some (vI (nI g)), some (vI (nI i)), some (vI (nI m)), some (vI (nI (j + 1))), some (vI (nI (max f (stN S j))))]) (st' := []) (by rw [(show (nI j + 1) = nI (j + 1) from ((g_add (rfl : nI j = nI j) (show (1 : Int32) = nI 1 from rfl))).trans (congrArg nI (by omega)))]) rfl rfl ?_
      exact o3 h7 h8 s9 es9

theorem b_95_51e {X : Nat × (Nat → Int32)} {d : Nat} {p : Nat → Nat} {sg : Mg} {Q : am_R → Prop} {B : Nat} {S : Nat → Int32} (hI : Inv B S) (hL : cwL 250 sg S) (hD : cwD 200 sg S) {z1 : Option AV} {l : Nat} {g : Nat} {i : Nat} {m : Nat} {z8 : Option AV} (u_l : l ≤ 200400) (u_snS1 : sn S 1 ≤ 8) (u_g : g ≤ 255) (u_i : i ≤ 8) (u_m : m ≤ 7) (u_snS1 : sn S 1 ≤ 8)
    (o1 : gW X (d + 7) k_95 21 [some (vR 8), z1, some (vI (nI l)), some (vI (nI (sn S 1))), some (vI (nI g)), some (vI (nI (i + 1))), some (vI (nI m)), some (vI (nI (sn S 1))), z8] [] p sg Q) :
    gW X (d + 7) k_95 51 [some (vR 8), z1, some (vI (nI l)), some (vI (nI (sn S 1))), some (vI (nI g)), some (vI (nI i)), some (vI (nI m)), some (vI (nI (sn S 1))), z8] [] p sg Q := by
  have b0 := hI.b0; have b1 := hI.b1; have b2 := hI.b2; have b3 := hI.b3; have b4 := hI.b4; have b5 := hI.b5; have b6 := hI.b6; have b7 := hI.b7; have b8 := hI.b8; have b9 := hI.b9; have b14 := hI.b14
  refine g_pure 2 (i' := 53) (lv' := [some (vR 8), z1, some (vI (nI l)), some (vI (nI (sn S 1))), some (vI (nI g)), some (vI (nI i)), some (vI (nI m)), some (vI (nI (sn S 1))), z8]) (st' := [vI (nI (sn S 1)), vI (nI (sn S 1))]) rfl ?_
  refine g_if2 (i' := 81) (P := sn S 1 ≤ sn S 1) rfl rfl (g_geN (show nI (sn S 1) = nI (sn S 1) from (rfl : nI (sn S 1) = nI (sn S 1))) (show nI (sn S 1) = nI (sn S 1) from (rfl : nI (sn S 1) = nI (sn S 1))) (by omega) (by omega)) (fun _ => ?_) (fun h1 => absurd (Nat.le_refl _) h1)
  refine g_pure 2 (i' := 21) (lv' := [some (vR 8), z1, some (vI (nI l)), some (vI (nI (sn S 1))), some (vI (nI g)), some (vI (nI i + 1)), some (vI (nI m)), some (vI (nI (sn S 1))), z8]) (st' := []) rfl ?_
  refine gW_eq (lv' := [some (vR 8), z1, some (vI (nI l)), some (vI (nI (sn S 1))), some (vI (nI g)), some (vI (nI (i + 1))), some (vI (nI m)), some (vI (nI (sn S 1))), z8]) (st' := []) (by rw [(show (nI i + 1) = nI (i + 1) from ((g_add (rfl : nI i = nI i) (show (1 : Int32) = nI 1 from rfl))).trans (congrArg nI (by omega)))]) rfl rfl ?_
  exact o1

/-- one is told by a time, if one is told first -/
def Tld (S : Nat → Int32) (p0 T o : Nat) : Prop := ∀ Q : Nat → Nat → Prop, Q (stN S p0) p0 → (∀ T o, Q T o → Q (T + 1) o) → (∀ T q o T', Q T q → q < sn S 1 → o < sn S 1 → Rch S q (hmN S q) T T' (hmN S o) → stN S o ≤ T' → Q T' o) → Q T o
theorem Tld.base {S : Nat → Int32} {p0 : Nat} : Tld S p0 (stN S p0) p0 := fun _ h _ _ => h
theorem Tld.wait {S : Nat → Int32} {p0 T o : Nat} (h : Tld S p0 T o) : Tld S p0 (T + 1) o := fun Q a b c => b _ _ (h Q a b c)
theorem Tld.waits {S : Nat → Int32} {p0 T o : Nat} (h : Tld S p0 T o) : ∀ n, Tld S p0 (T + n) o
  | 0 => h
  | n + 1 => (h.waits n).wait
theorem Tld.mono {S : Nat → Int32} {p0 T T' o : Nat} (h : Tld S p0 T o) (hT : T ≤ T') : Tld S p0 T' o := by
  have := h.waits (T' - T)
  rw [show T + (T' - T) = T' by omega] at this
  exact this
theorem Tld.tell {S : Nat → Int32} {p0 T q o T' : Nat} (h : Tld S p0 T q) (hq : q < sn S 1) (ho : o < sn S 1) (hR : Rch S q (hmN S q) T T' (hmN S o)) (hs : stN S o ≤ T') : Tld S p0 T' o := fun Q a b c => c _ _ _ _ (h Q a b c) hq ho hR hs
theorem Tld.lt {S : Nat → Int32} {p0 T o : Nat} (h : Tld S p0 T o) (hp : p0 < sn S 1) : o < sn S 1 := h (fun _ o => o < sn S 1) hp (fun _ _ h => h) (fun _ _ _ _ _ _ ho _ _ => ho)
theorem Tld.ge {S : Nat → Int32} {p0 T o : Nat} (h : Tld S p0 T o) : stN S p0 ≤ T := h (fun T _ => stN S p0 ≤ T) (Nat.le_refl _) (fun _ _ h => by omega) (fun _ _ _ _ h _ _ hR _ => by have := hR.ge; omega)
theorem Rch.early {S : Nat → Int32} {k v0 T0 T1 T v : Nat} (h : Rch S k v0 T0 T v) (h1 : T1 ≤ T0) : Rch S k v0 T1 T v := h (Rch S k v0 T1) (Rch.base.mono h1) (fun _ _ h => h.wait) (fun _ _ _ h hb hr ho => h.go hb hr ho)
/-- what holds as the news goes on -/
def dkI (S : Nat → Int32) (p0 l : Nat) (D : Nat → Nat) (G : Nat → Bool) : Prop :=
  (∀ o, o < sn S 1 → (D o ≤ l ∨ o = p0) → Tld S p0 (D o) o) ∧ D p0 = stN S p0 ∧
  (∀ q x, q < sn S 1 → x < sn S 1 → G q = true → G x = false → D q ≤ D x) ∧
  ∀ q, q < sn S 1 → G q = true → ∀ o, o < sn S 1 → ∀ T, T ≤ l → Rch S q (hmN S q) (D q) T (hmN S o) → stN S o ≤ T → D o ≤ T
/-- one goes on telling -/
theorem dkI.step {S : Nat → Int32} {p0 l m : Nat} {D D' : Nat → Nat} {G : Nat → Bool} (h : dkI S p0 l D G) (hp : p0 < sn S 1) (hm : m < sn S 1) (hG : G m = false) (hmin : ∀ x, x < sn S 1 → G x = false → D m ≤ D x) (hok : D m ≤ l ∨ m = p0)
    (h1 : ∀ o, o < sn S 1 → D' o = D o ∨ (D' o < D o ∧ D' o ≤ l ∧ Rch S m (hmN S m) (D m) (D' o) (hmN S o) ∧ stN S o ≤ D' o)) (h2 : ∀ o, o < sn S 1 → ∀ T, T ≤ l → Rch S m (hmN S m) (D m) T (hmN S o) → stN S o ≤ T → D' o ≤ T) : dkI S p0 l D' (upB G m) := by
  obtain ⟨a1, a2, a3, a4⟩ := h
  have low : ∀ o, o < sn S 1 → D' o = D o ∨ (D m ≤ D' o ∧ D' o < D o) := fun o ho => (h1 o ho).imp id (fun g => ⟨g.2.2.1.ge, g.1⟩)
  have le : ∀ o, o < sn S 1 → D' o ≤ D o := fun o ho => by rcases low o ho with g | g <;> omega
  have old : ∀ q, q < sn S 1 → upB G m q = true → D' q = D q ∧ D q ≤ D m := fun q hq hu => by
    have : D q ≤ D m := by
      by_cases e : q = m
      · rw [e]; exact Nat.le_refl _
      · rw [upB_ne e] at hu; exact a3 q m hq hm hu hG
    refine ⟨?_, this⟩
    rcases low q hq with g | g
    · exact g
    · omega
  have Tm : Tld S p0 (D m) m := a1 m hm hok
  have pge : ∀ o, o < sn S 1 → D' o = D o ∨ stN S p0 ≤ D' o := fun o ho => (h1 o ho).imp id (fun g => Nat.le_trans Tm.ge g.2.2.1.ge)
  refine ⟨fun o ho hl => ?_, ?_, fun q x hq hx hq2 hx2 => ?_, fun q hq hq2 o ho T hT hR hs => ?_⟩
  · rcases h1 o ho with g | g
    · rw [g] at hl ⊢; exact a1 o ho hl
    · exact Tm.tell hm ho g.2.2.1 g.2.2.2
  · have := le p0 hp
    rcases pge p0 hp with g | g
    · rw [g]; exact a2
    · omega
  · obtain ⟨e1, e2⟩ := old q hq hq2
    have hx3 : G x = false := by
      cases c : G x
      · rfl
      · rw [upB_old c] at hx2; cases hx2
    have := hmin x hx hx3
    rcases low x hx with g | g <;> omega
  · obtain ⟨e1, e2⟩ := old q hq hq2
    rw [e1] at hR
    by_cases e : q = m
    · subst e; exact h2 o ho T hT hR hs
    · rw [upB_ne e] at hq2
      exact Nat.le_trans (le o ho) (a4 q hq hq2 o ho T hT hR hs)
/-- .. to the end -/
theorem dkI.done {S : Nat → Int32} {p0 l : Nat} {D : Nat → Nat} {G : Nat → Bool} (h : dkI S p0 l D G) (hp : p0 < sn S 1) (hG : ∀ o, o < sn S 1 → G o = false → l < D o) : ∀ T o, o < sn S 1 → T ≤ l → Tld S p0 T o → D o ≤ T := by
  obtain ⟨a1, a2, a3, a4⟩ := h
  intro T o ho hT hR
  refine (hR (fun T o => o < sn S 1 ∧ (T ≤ l → D o ≤ T)) ⟨hp, fun _ => by omega⟩ (fun T o g => ⟨g.1, fun hT => by have := g.2 (by omega); omega⟩) (fun T q o T' g hq ho hR hs => ⟨ho, fun hT => ?_⟩)).2 hT
  have h1 := hR.ge
  have h2 := g.2 (by omega)
  have h3 : G q = true := by
    cases c : G q
    · have := hG q hq c; omega
    · rfl
  exact a4 q hq h3 o ho T' hT (hR.early h2) hs
/-- the told times as the class has them -/
def tdM (s : Mg) (D : Nat → Nat) : Prop := ∀ u, u < 8 → s 12 u = nI (D u) ∧ D u ≤ 2000000000
theorem tdM.up {s : Mg} {D : Nat → Nat} (h : tdM s D) {u x : Nat} (hx : x ≤ 2000000000) : tdM (mu s 12 u (nI x)) (fun i => if i = u then x else D i) := fun i hi => by
  dsimp only
  by_cases e : i = u
  · subst e
    rw [mu_self, if_pos rfl]
    exact ⟨rfl, hx⟩
  · rw [mu_idx e, if_neg e]
    exact h i hi
theorem tdM.eq {s s' : Mg} {D : Nat → Nat} (h : tdM s D) (e : s' 12 = s 12) : tdM s' D := fun u hu => by rw [e]; exact h u hu
/-- the one told soonest of those who did not go on yet -/
def selP (S : Nat → Int32) (D : Nat → Nat) (q j : Nat) (v : Int32) : Prop := (v = -1 ∧ ∀ o, o < j → q.testBit o = false → D o = 2000000000) ∨ ∃ m, m < j ∧ v = nI m ∧ q.testBit m = false ∧ ¬ D m = 2000000000 ∧ ∀ o, o < j → q.testBit o = false → D m ≤ D o
theorem s_96 {X : Nat × (Nat → Int32)} {d : Nat} {p : Nat → Nat} {sg : Mg} {B : Nat} {S : Nat → Int32} (hI : Inv B S) (hL : cwL 250 sg S) (hD : cwD 200 sg S) {q : Nat} {D : Nat → Nat} (hq : q < 256) (hM : tdM sg D) : gF X (d + 1) 96 [vR 8, vI (nI q)] p sg (fun r => ∃ v, selP S D q (sn S 1) v ∧ r = gRv p sg v) := by
  have b1 := hI.b1
  refine g_in (cd := k_96) (nL := 5) (rc := 10) rfl (g_A (a := 8) (kd := 0) (n := 9) rfl (by decide)) (g_c1 rfl) (b_96_0 hI hL hD (by omega) ?_)
  have key := g_upI (P := fun j => ∀ v z4, selP S D q j v → gW X d k_96 4 [some (vR 8), some (vI (nI q)), some (vI v), some (vI (nI j)), z4] [] p sg (fun r => ∃ v, selP S D q (sn S 1) v ∧ r = gRv p sg v)) (I := fun _ => True) (n := sn S 1) (a := 0) (by omega) trivial ?_ ?_
  · exact key (-1) none (Or.inl ⟨rfl, fun o ho => absurd ho (Nat.not_lt_zero _)⟩)
  · intro j _ hj _ ih v z4 hv
    have ih := ih trivial
    have m := hM j (by omega)
    have skip : (q.testBit j = true ∨ D j = 2000000000 ∨ ∃ m, v = nI m ∧ m < j ∧ D m ≤ D j) → selP S D q (j + 1) v := fun h => by
      rcases hv with ⟨h1, h2⟩ | ⟨b, h1, h2, h3, h4, h5⟩
      · refine Or.inl ⟨h1, fun o ho hb => ?_⟩
        by_cases e : o = j
        · subst e
          rcases h with h | h | ⟨m, h, h9, _⟩
          · rw [h] at hb; cases hb
          · exact h
          · rw [h1] at h; exact absurd h.symm (nI_m1 (by omega))
        · exact h2 o (by omega) hb
      · refine Or.inr ⟨b, by omega, h2, h3, h4, fun o ho hb => ?_⟩
        by_cases e : o = j
        · subst e
          rcases h with h | h | ⟨m, h, h9, h10⟩
          · rw [h] at hb; cases hb
          · have := (hM b (by omega)).2; omega
          · rw [h2, nI_eq (by omega) (by omega)] at h; subst h; exact h10
        · exact h5 o (by omega) hb
    have take : q.testBit j = false → ¬ D j = 2000000000 → (∀ o, o < j → q.testBit o = false → D j ≤ D o) → selP S D q (j + 1) (nI j) := fun h1 h2 h3 => by
      refine Or.inr ⟨j, by omega, rfl, h1, h2, fun o ho hb => ?_⟩
      by_cases e : o = j
      · subst e; exact Nat.le_refl _
      · exact h3 o (by omega) hb
    have bt : ¬ ((nI q >>> (nI j &&& 31)) &&& 1) = 0 → q.testBit j = true := fun h => by
      rw [nI_bit0 (by omega) (by omega)] at h
      simpa using h
    have bf : ((nI q >>> (nI j &&& 31)) &&& 1) = 0 → q.testBit j = false := (nI_bit0 (by omega) (by omega)).mp
    rcases hv with ⟨h1, h2⟩ | ⟨b, h1, h2, h3, h4, h5⟩
    · subst h1
      refine b_96_m hI hL hD (by omega) (by omega) m.2 hj m.1 (fun h => ih _ _ (skip (Or.inl (bt h)))) (fun h h9 => ih _ _ (skip (Or.inr (Or.inl h9)))) (fun h h9 => ih _ _ (take (bf h) h9 (fun o ho hb => ?_)))
      rw [h2 o ho hb]; exact m.2
    · subst h2
      have m2 := hM b (by omega)
      refine b_96_b hI hL hD (by omega) (by omega) (by omega) m.2 m2.2 hj m.1 m2.1 (fun h => ih _ _ (skip (Or.inl (bt h)))) (fun h h9 => ih _ _ (skip (Or.inr (Or.inl h9)))) (fun h h9 h10 => ih _ _ (skip (Or.inr (Or.inr ⟨b, rfl, h1, h10⟩)))) (fun h h9 h10 => ih _ _ (take (bf h) h9 (fun o ho hb => ?_)))
      have := h5 o ho hb
      omega
  · intro _ v z4 hv
    exact b_96_e hI hL hD (by omega) (by omega) ⟨v, hv, rfl⟩

theorem b_95_0 {X : Nat × (Nat → Int32)} {d : Nat} {p : Nat → Nat} {sg : Mg} {Q : am_R → Prop} {B : Nat} {S : Nat → Int32} (hI : Inv B S) (hL : cwL 250 sg S) (hD : cwD 200 sg S) {k : Nat} {l : Nat} (u_k : k ≤ 7) (u_l : l ≤ 200400)
    (o1 : gW X (d + 7) k_95 6 [some (vR 8), some (vI (nI k)), some (vI (nI l)), some (vI (S 1)), none, none, none, none, none] [] p sg Q) :
    gW X (d + 7) k_95 0 [some (vR 8), some (vI (nI k)), some (vI (nI l)), none, none, none, none, none, none] [] p sg Q := by
  have b0 := hI.b0; have b1 := hI.b1; have b2 := hI.b2; have b3 := hI.b3; have b4 := hI.b4; have b5 := hI.b5; have b6 := hI.b6; have b7 := hI.b7; have b8 := hI.b8; have b9 := hI.b9; have b14 := hI.b14
  refine g_pure 4 (i' := 4) (lv' := [some (vR 8), some (vI (nI k)), some (vI (nI l)), none, none, none, none, none, none]) (st' := [vI 1, vR 203]) rfl ?_
  refine g_ald rfl (g_A (a := 203) (kd := 1) (n := 6) rfl (by decide)) (by decide) (show 1 = nI 1 from (show (1 : Int32) = nI 1 from rfl)) (by decide) (show _ = S 1 from (hD.cnt (by decide))) ?_
  refine g_pure 1 (i' := 6) (lv' := [some (vR 8), some (vI (nI k)), some (vI (nI l)), some (vI (S 1)), none, none, none, none, none]) (st' := []) rfl ?_
  exact o1

noncomputable def tldB (S : Nat → Int32) (p0 T o : Nat) : Bool := @decide (Tld S p0 T o) (Classical.propDecidable _)
theorem tldB_t {S : Nat → Int32} {p0 T o : Nat} : tldB S p0 T o = true ↔ Tld S p0 T o := by unfold tldB; exact @decide_eq_true_iff _ (Classical.propDecidable _)
/-- who is warned by then -/
noncomputable def wnP (S : Nat → Int32) (p0 l o : Nat) : Bool := decide (o = p0) || tldB S p0 l o
theorem wnP_t {S : Nat → Int32} {p0 l o : Nat} : wnP S p0 l o = true ↔ o = p0 ∨ Tld S p0 l o := by
  unfold wnP
  rw [Bool.or_eq_true, decide_eq_true_iff, tldB_t]
theorem bits_eq {g n : Nat} {P : Nat → Bool} (hg : g < 2 ^ n) (h : ∀ o, o < n → g.testBit o = P o) : g = bset P n := by
  refine Nat.eq_of_testBit_eq (fun o => ?_)
  rw [bset_bit]
  by_cases c : o < n
  · rw [h o c, decide_eq_true c, Bool.true_and]
  · rw [decide_eq_false c, Bool.false_and]
    exact Nat.testBit_lt_two_pow (Nat.lt_of_lt_of_le hg (Nat.pow_le_pow_right (by decide) (by omega)))
/-- those who hear -/
theorem l_95_51 {X : Nat × (Nat → Int32)} {d : Nat} {p : Nat → Nat} {sg : Mg} {B : Nat} {S : Nat → Int32} (hI : Inv B S) (hL : cwL 250 sg S) (hD : cwD 200 sg S) {Q : am_R → Prop} {p0 l g i m : Nat} {D F : Nat → Nat} (hl : l ≤ sn S 8 + 400) (hl2 : l ≤ 200400) (hg : g < 256) (hi : i ≤ 8) (hm : m < sn S 1) (hM : soM sg F) (hP : spP S m (hmN S m) (D m) l F) (hT : tdM sg D) {z1 z8 : Option AV}
    (x : ∀ s D' z7 z8, (∀ c, c ≠ 12 → s c = sg c) → tdM s D' → (∀ o, o < sn S 1 → D' o = D o ∨ (D' o < D o ∧ D' o ≤ l ∧ Rch S m (hmN S m) (D m) (D' o) (hmN S o) ∧ stN S o ≤ D' o)) → (∀ o, o < sn S 1 → ∀ T, T ≤ l → Rch S m (hmN S m) (D m) T (hmN S o) → stN S o ≤ T → D' o ≤ T) → gW X (d + 7) k_95 21 [some (vR 8), z1, some (vI (nI l)), some (vI (nI (sn S 1))), some (vI (nI g)), some (vI (nI (i + 1))), some (vI (nI m)), z7, z8] [] p s Q) :
    gW X (d + 7) k_95 51 [some (vR 8), z1, some (vI (nI l)), some (vI (nI (sn S 1))), some (vI (nI g)), some (vI (nI i)), some (vI (nI m)), some (vI (nI 0)), z8] [] p sg Q := by
  have b0 := hI.b0; have b1 := hI.b1; have b8 := hI.b8
  have key := g_upI (P := fun j => ∀ s D' z8, (∀ c, c ≠ 12 → s c = sg c) → tdM s D' → (∀ o, o < j → (D' o = D o ∨ (D' o < D o ∧ D' o ≤ l ∧ Rch S m (hmN S m) (D m) (D' o) (hmN S o) ∧ stN S o ≤ D' o)) ∧ ∀ T, T ≤ l → Rch S m (hmN S m) (D m) T (hmN S o) → stN S o ≤ T → D' o ≤ T) → (∀ o, j ≤ o → D' o = D o) → gW X (d + 7) k_95 51 [some (vR 8), z1, some (vI (nI l)), some (vI (nI (sn S 1))), some (vI (nI g)), some (vI (nI i)), some (vI (nI m)), some (vI (nI j)), z8] [] p s Q) (I := fun _ => True) (n := sn S 1) (a := 0) (by omega) trivial ?_ ?_
  · exact key sg D z8 (fun _ _ => rfl) hT (fun o ho => absurd ho (Nat.not_lt_zero _)) (fun _ _ => rfl)
  · intro j _ hj _ ih s D' z8 hs hT h1 h2
    have ih := ih trivial
    have hL2 : cwL 250 s S := hL.eqc (fun c c1 c2 => hs c (by omega))
    have hD2 : cwD 200 s S := hD.eqc (fun c c1 => hs c (by omega))
    obtain ⟨k1, k2, k3, _, _⟩ := hm_ok hI hj
    have mf := hM (hmN S j) (by omega)
    have mf1 : s 10 (hmN S j) = nI (F (hmN S j)) := by rw [hs 10 (by decide)]; exact mf.1
    have mt := hT j (by omega)
    have e0 : D' j = D j := h2 j (Nat.le_refl _)
    have cpl : ∀ T, T ≤ l → Rch S m (hmN S m) (D m) T (hmN S j) → stN S j ≤ T → max (F (hmN S j)) (stN S j) ≤ T := fun T hT hR hs => by
      have := hP.2 T _ k1 hT hR
      omega
    have next : ∀ D'' : Nat → Nat, (∀ o, o ≠ j → D'' o = D' o) → ((D'' j = D j ∨ (D'' j < D j ∧ D'' j ≤ l ∧ Rch S m (hmN S m) (D m) (D'' j) (hmN S j) ∧ stN S j ≤ D'' j)) ∧ ∀ T, T ≤ l → Rch S m (hmN S m) (D m) T (hmN S j) → stN S j ≤ T → D'' j ≤ T) → (∀ o, o < j + 1 → (D'' o = D o ∨ (D'' o < D o ∧ D'' o ≤ l ∧ Rch S m (hmN S m) (D m) (D'' o) (hmN S o) ∧ stN S o ≤ D'' o)) ∧ ∀ T, T ≤ l → Rch S m (hmN S m) (D m) T (hmN S o) → stN S o ≤ T → D'' o ≤ T) ∧ ∀ o, j + 1 ≤ o → D'' o = D o := fun D'' g1 g2 => by
      refine ⟨fun o ho => ?_, fun o ho => by rw [g1 o (by omega)]; exact h2 o (by omega)⟩
      by_cases e : o = j
      · subst e; exact g2
      · rw [g1 o e]; exact h1 o (by omega)
    refine b_95_51 hI hL2 hD2 hl2 (by omega) (by omega) (by omega) (by omega) (by omega) mf.2 mt.2 hj mf1 mt.1 (fun h => ?_) (fun h h9 => ?_) (fun h h9 s9 e9 => ?_)
    · obtain ⟨q1, q2⟩ := next D' (fun _ _ => rfl) ⟨Or.inl e0, fun T hT hR hs => by have := cpl T hT hR hs; omega⟩
      exact ih _ _ _ hs hT q1 q2
    · obtain ⟨q1, q2⟩ := next D' (fun _ _ => rfl) ⟨Or.inl e0, fun T hT hR hs => by have := cpl T hT hR hs; omega⟩
      exact ih _ _ _ hs hT q1 q2
    · have hF := (hP.1 _ k1).resolve_left (by omega)
      obtain ⟨q1, q2⟩ := next (fun o => if o = j then max (F (hmN S j)) (stN S j) else D' o) (fun o ho => if_neg ho) ⟨by
        rw [if_pos rfl]
        exact Or.inr ⟨by omega, by omega, hF.2.mono (Nat.le_max_left _ _), Nat.le_max_right _ _⟩, fun T hT hR hs => by
        rw [if_pos rfl]
        exact cpl T hT hR hs⟩
      refine ih _ _ _ (fun c hc => by rw [e9, mu_ne hc]; exact hs c hc) ?_ q1 q2
      rw [e9]
      exact hT.up (by omega)
  · intro _ s D' z8 hs hT h1 h2
    have hL2 : cwL 250 s S := hL.eqc (fun c c1 c2 => hs c (by omega))
    have hD2 : cwD 200 s S := hD.eqc (fun c c1 => hs c (by omega))
    exact b_95_51e hI hL2 hD2 hl2 (by omega) (by omega) (by omega) (by omega) (by omega) (x s D' _ _ hs hT (fun o ho => (h1 o ho).1) (fun o ho => (h1 o ho).2))
theorem cnt_upB {G : Nat → Bool} {m : Nat} (hm : G m = false) : ∀ n, cnt (upB G m) n = cnt G n + if m < n then 1 else 0
  | 0 => rfl
  | n + 1 => by
    have h := cnt_upB hm n
    show cnt (upB G m) n + _ = cnt G n + _ + _
    rw [h]
    by_cases e : n = m
    · subst e
      rw [upB_self, hm, if_neg (Nat.lt_irrefl _), if_pos (Nat.lt_succ_self _)]
      rfl
    · rw [upB_ne e]
      have e2 : (m < n + 1) ↔ (m < n) := by omega
      simp only [e2]
      omega
theorem cnt_all {G : Nat → Bool} : ∀ {n : Nat}, cnt G n = n → ∀ o, o < n → G o = true
  | 0, _, o, h => absurd h (Nat.not_lt_zero _)
  | n + 1, h, o, ho => by
    have h1 := cnt_le G n
    have h2 : cnt G n + (if G n = true then 1 else 0) = n + 1 := h
    by_cases c : G n = true
    · rw [if_pos c] at h2
      by_cases e : o = n
      · subst e; exact c
      · exact cnt_all (n := n) (by omega) o (by omega)
    · rw [if_neg c] at h2; omega
theorem s_95 {X : Nat × (Nat → Int32)} {d : Nat} {p : Nat → Nat} {sg : Mg} {B : Nat} {S : Nat → Int32} (hI : Inv B S) (hL : cwL 250 sg S) (hD : cwD 200 sg S) (hW : LW S sg) (hB : bOK S sg) {k l : Nat} (hk : k < sn S 1) (hl : l ≤ sn S 8 + 400) : gF X (d + 8) 95 [vR 8, vI (nI k), vI (nI l)] p sg (fun r => ∃ s, (WY sg s ∧ bOK S s ∧ s 13 = sg 13) ∧ r = gRv p s (nI (bset (wnP S k l) (sn S 1)))) := by
  have b0 := hI.b0; have b1 := hI.b1; have b8 := hI.b8
  obtain ⟨k1, k2, k3, _, _⟩ := hm_ok hI hk
  refine g_in (cd := k_95) (nL := 9) (rc := 10) rfl (g_A (a := 8) (kd := 0) (n := 9) rfl (by decide)) (g_c1 rfl) (b_95_0 hI hL hD (by omega) (by omega) ?_)
  rw [hI.c1]
  refine g_pure 3 (i' := 9) (lv' := [some (vR 8), some (vI (nI k)), some (vI (nI l)), some (vI (nI (sn S 1))), none, none, none, none, none]) (st' := [vI 2000000000, vR 12]) rfl ?_
  refine g_calS rfl (args := [vR 12, vI 2000000000]) (rest := []) rfl rfl (Nat.zero_le _) (s_318 (d := d + 6) (g_A (a := 12) (kd := 1) (n := 8) rfl (by decide)) (by omega)) (fun q hq => ?_)
  obtain ⟨s1, g1, rfl⟩ := hq
  refine gK_0 ?_
  have w1 : WY sg s1 := fun c c1 _ _ _ => g1.1 c (by omega)
  have hB1 : bOK S s1 := hB.eq (g1.1 8 (by decide)) (g1.1 9 (by decide))
  have hM1 : tdM s1 (fun _ => 2000000000) := fun u hu => ⟨g1.2 u hu, Nat.le_refl _⟩
  refine g_pure 5 (i' := 15) (lv' := [some (vR 8), some (vI (nI k)), some (vI (nI l)), some (vI (nI (sn S 1))), none, none, none, none, none]) (st' := [vI (nI k), vR 8, vI (nI k), vR 12]) rfl ?_
  refine g_cV1 rfl (args := [vR 8, vI (nI k)]) (rest := [vI (nI k), vR 12]) rfl rfl rfl (s_86 (d := d + 5) hI (w1.L hL) (w1.D hD) hk) ?_
  refine g_ast rfl (g_A (a := 12) (kd := 1) (n := 8) rfl (by decide)) (by decide) rfl (by omega) ?_
  refine g_setv (fun s2 e2 => ?_)
  have w2 : WY sg s2 := w1.tr (fun c c1 _ _ _ => by rw [e2, mu_ne (by omega)])
  have hB2 : bOK S s2 := by rw [e2]; exact hB1.out (by decide)
  have hM2 := hM1.up (u := k) (show stN S k ≤ 2000000000 by omega)
  rw [← e2] at hM2
  have h13 : s2 13 = sg 13 := by rw [e2, mu_ne (by decide), g1.1 13 (by decide)]
  refine g_pure 4 (i' := 21) (lv' := [some (vR 8), some (vI (nI k)), some (vI (nI l)), some (vI (nI (sn S 1))), some (vI (nI 0)), some (vI (nI 0)), none, none, none]) (st' := []) rfl ?_
  have fin : ∀ s g D, WY sg s → bOK S s → s 13 = sg 13 → g < 2 ^ sn S 1 → dkI S k l D (fun o => g.testBit o) → (∀ o, o < sn S 1 → g.testBit o = true → D o ≤ l ∨ o = k) → (∀ o, o < sn S 1 → g.testBit o = false → D o = 2000000000) → ∃ s', (WY sg s' ∧ bOK S s' ∧ s' 13 = sg 13) ∧ gRv p s (nI g) = gRv p s' (nI (bset (wnP S k l) (sn S 1))) := by
    intro s g D hs hB h13 hg hd h5 h6
    refine ⟨s, ⟨hs, hB, h13⟩, ?_⟩
    have hdone := hd.done hk (fun o ho hb => by have := h6 o ho hb; omega)
    rw [← bits_eq (P := wnP S k l) hg (fun o ho => ?_)]
    have hT : wnP S k l o = true ↔ g.testBit o = true := by
      rw [wnP_t]
      constructor
      · intro h
        cases c : g.testBit o
        · have := h6 o ho c
          rcases h with rfl | h
          · have := hd.2.1; omega
          · have := hdone l o ho (Nat.le_refl _) h; omega
        · rfl
      · intro h
        rcases h5 o ho h with h9 | h9
        · exact Or.inr ((hd.1 o ho (Or.inl h9)).mono h9)
        · exact Or.inl h9
    cases c : g.testBit o
    · cases c2 : wnP S k l o
      · rfl
      · rw [hT.mp c2] at c; cases c
    · rw [hT.mpr c]
  have key := g_upI (P := fun i => ∀ s g D z6 z7 z8, WY sg s → bOK S s → s 13 = sg 13 → tdM s D → g < 2 ^ sn S 1 → dkI S k l D (fun o => g.testBit o) → (∀ o, o < sn S 1 → g.testBit o = true → D o ≤ l ∨ o = k) → (∀ o, o < sn S 1 → D o = 2000000000 ∨ D o ≤ l ∨ o = k) → cnt (fun o => g.testBit o) (sn S 1) = i → gW X (d + 7) k_95 21 [some (vR 8), some (vI (nI k)), some (vI (nI l)), some (vI (nI (sn S 1))), some (vI (nI g)), some (vI (nI i)), z6, z7, z8] [] p s (fun r => ∃ s, (WY sg s ∧ bOK S s ∧ s 13 = sg 13) ∧ r = gRv p s (nI (bset (wnP S k l) (sn S 1))))) (I := fun _ => True) (n := sn S 1) (a := 0) (by omega) trivial ?_ ?_
  · refine key s2 0 _ none none none w2 hB2 h13 hM2 (Nat.two_pow_pos _) ⟨fun o ho hoo => ?_, if_pos rfl, fun q x _ _ h => (by simp at h), fun q _ h => (by simp at h)⟩ (fun o _ h => (by simp at h)) (fun o ho => ?_) ?_
    · dsimp only at hoo ⊢
      by_cases e : o = k
      · subst e; rw [if_pos rfl]; exact Tld.base
      · rw [if_neg e] at hoo; omega
    · by_cases e : o = k
      · exact Or.inr (Or.inr e)
      · rw [if_neg e]; exact Or.inl rfl
    · have : (fun o => Nat.testBit 0 o) = fun _ => false := funext (fun o => Nat.zero_testBit o)
      rw [this]
      exact cnt_none (n := 0) (fun _ _ => rfl) (Nat.zero_le _)
  · intro i _ hi _ ih s g D z6 z7 z8 hs hB h13 hM hg hd h5 h6 hc
    have ih := ih trivial
    have p8 := pw8 (sn S 1) (by omega)
    refine b_95_21 hI (hs.L hL) (hs.D hD) (by omega) (by omega) (by omega) (by omega) (fun h => by omega) (fun _ => ?_)
    refine g_pure 2 (i' := 26) (lv' := [some (vR 8), some (vI (nI k)), some (vI (nI l)), some (vI (nI (sn S 1))), some (vI (nI g)), some (vI (nI i)), z6, z7, z8]) (st' := [vI (nI g), vR 8]) rfl ?_
    refine g_calV rfl (args := [vR 8, vI (nI g)]) (rest := []) rfl rfl (Nat.zero_le _) (s_96 (d := d + 6) hI (hs.L hL) (hs.D hD) (by omega) hM) (fun q hq => ?_)
    obtain ⟨v, hv, rfl⟩ := hq
    refine gK_v ?_
    rcases hv with ⟨rfl, hv⟩ | ⟨m, hm, rfl, hb, hne, hmin⟩
    · refine g_pure 1 (i' := 28) (lv' := [some (vR 8), some (vI (nI k)), some (vI (nI l)), some (vI (nI (sn S 1))), some (vI (nI g)), some (vI (nI i)), some (vI (-1)), z7, z8]) (st' := []) rfl ?_
      exact b_95_x hI (hs.L hL) (hs.D hD) (by omega) (by omega) (by omega) (by omega) (fin s g D hs hB h13 hg hd h5 hv)
    · refine g_pure 1 (i' := 28) (lv' := [some (vR 8), some (vI (nI k)), some (vI (nI l)), some (vI (nI (sn S 1))), some (vI (nI g)), some (vI (nI i)), some (vI (nI m)), z7, z8]) (st' := []) rfl ?_
      have hok := (h6 m hm).resolve_left hne
      have hTm := (hd.1 m hm hok).ge
      have hDm : D m ≤ 200405 := by
        rcases hok with h9 | h9
        · omega
        · rw [h9, hd.2.1]; omega
      refine b_95_m hI (hs.L hL) (hs.D hD) (hs.W hW) hB (by omega) (by omega) (by omega) (by omega) (by omega) hDm (by omega) hm hl (hM m (by omega)).1 (fun s3 h3 => ?_)
      obtain ⟨hs3, hB3, F, hF, hP⟩ := h3
      have w3 := hs.tr (WY.sf hs3)
      have hg2 : g ||| 2 ^ m < 2 ^ sn S 1 := or_lt hg (pow_lt2 hm)
      rw [nI_orbit (by omega)]
      refine l_95_51 (p0 := k) (g := g ||| 2 ^ m) hI (w3.L hL) (w3.D hD) hl (by omega) (by omega) (by omega) hm hF hP (hM.eq (hs3 12 (by decide) (by decide) (by decide) (by decide))) (fun s4 D' z7 z8 hs4 hM4 q1 q2 => ?_)
      have eG : (fun o => (g ||| 2 ^ m).testBit o) = upB (fun o => g.testBit o) m := funext (fun o => by
        rw [tb_or]
        unfold upB
        congr 1
        exact decide_eq_decide.mpr eq_comm)
      refine ih s4 (g ||| 2 ^ m) D' _ _ _ (w3.tr (fun c c1 _ _ _ => hs4 c (by omega))) (hB3.eq (hs4 8 (by decide)) (hs4 9 (by decide))) (by rw [hs4 13 (by decide), hs3 13 (by decide) (by decide) (by decide) (by decide), h13]) hM4 hg2 ?_ (fun o ho h9 => ?_) (fun o ho => ?_) ?_
      · rw [eG]
        exact hd.step hk hm hb hmin hok q1 q2
      · rw [show (g ||| 2 ^ m).testBit o = upB (fun o => g.testBit o) m o from congrFun eG o] at h9
        rcases q1 o ho with e | e
        · rw [e]
          by_cases c : o = m
          · rw [c]; exact hok
          · rw [upB_ne c] at h9; exact h5 o ho h9
        · exact Or.inl e.2.1
      · rcases q1 o ho with e | e
        · rw [e]; exact h6 o ho
        · exact Or.inr (Or.inl e.2.1)
      · rw [eG, cnt_upB hb, hc, if_pos hm]
  · intro _ s g D z6 z7 z8 hs hB h13 hM hg hd h5 h6 hc
    have p8 := pw8 (sn S 1) (by omega)
    have all := cnt_all hc
    exact b_95_21 hI (hs.L hL) (hs.D hD) (by omega) (by omega) (by omega) (by omega) (fun _ => fin s g D hs hB h13 hg hd h5 (fun o ho h9 => by rw [all o ho] at h9; cases h9)) (fun h => by omega)
