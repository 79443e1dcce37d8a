/-! THE TAPE: feed, end, fault (made by wip/whole/gen89n.py) -/
theorem b_66_l24 {X : Nat × (Nat → Int32)} {d : Nat} {p : Nat → Nat} {sg : Mg} {Q : am_R → Prop} {n : Nat} (u_n : n ≤ 400) (kn_1_1 : sg 1 1 = nI n) {x : Int32}
    (o1 : (400 ≤ n) → Q (gR0 p sg))
    (o2 : (¬ (400 ≤ n)) → ∀ s3 : Mg, s3 = mu sg 2 n (vp_nar .byte ((((x : Int32).toUInt32 >>> ((24 : Int32).toUInt32 &&& Int32.toUInt32 31)).toInt32).toInt8.toInt32)) → ∀ s4 : Mg, s4 = mu s3 1 1 (nI (n + 1)) → gW X (d + 1) k_66 2 [some (vR 1), some (vI x), some (vI 16)] [] p s4 Q) :
    gW X (d + 1) k_66 2 [some (vR 1), some (vI x), some (vI 24)] [] p sg Q := by
  refine g_pure 1 (i' := 3) (lv' := [some (vR 1), some (vI x), some (vI 24)]) (st' := [vI 24]) rfl ?_
  refine g_if1 (i' := 25) (P := 24 < 0) rfl rfl (g_ltN (show 24 = nI 24 from (show (24 : Int32) = nI 24 from rfl)) (show 0 = nI 0 from (show (0 : Int32) = nI 0 from rfl)) (by omega) (by omega)) (fun h1 => absurd h1 (by omega)) (fun _ => ?_)
  refine g_pure 1 (i' := 5) (lv' := [some (vR 1), some (vI x), some (vI 24)]) (st' := [vR 1]) rfl ?_
  refine g_getI rfl (g_A (a := 1) (kd := 0) (n := 8) rfl (by decide)) (show _ = nI n from kn_1_1) ?_
  refine g_pure 1 (i' := 7) (lv' := [some (vR 1), some (vI x), some (vI 24)]) (st' := [vI 400, vI (nI n)]) rfl ?_
  refine g_if2 (i' := 25) (P := 400 ≤ n) rfl rfl (g_geN (show nI n = nI n from (rfl : nI n = nI n)) (show 400 = nI 400 from (show (400 : Int32) = nI 400 from rfl)) (by omega) (by omega)) (fun h2 => ?_) (fun h2 => ?_)
  · refine g_vret rfl ?_
    exact o1 h2
  · refine g_pure 3 (i' := 11) (lv' := [some (vR 1), some (vI x), some (vI 24)]) (st' := [vR 1, vR 2]) rfl ?_
    refine g_getI rfl (g_A (a := 1) (kd := 0) (n := 8) rfl (by decide)) (show _ = nI n from kn_1_1) ?_
    refine g_pure 4 (i' := 16) (lv' := [some (vR 1), some (vI x), some (vI 24)]) (st' := [vI ((((x : Int32).toUInt32 >>> ((24 : Int32).toUInt32 &&& Int32.toUInt32 31)).toInt32).toInt8.toInt32), vI (nI n), vR 2]) rfl ?_
    refine g_bast2 rfl (g_A (a := 2) (kd := 2) (n := 400) rfl (by decide)) (by decide) (show nI n = nI n from (rfl : nI n = nI n)) (by omega) ?_
    refine g_setv (fun s3 es3 => ?_)
    have kns3_1_1 : s3 1 1 = nI n := by rw [es3, mu_ne (by decide)]; exact kn_1_1
    refine g_pure 2 (i' := 19) (lv' := [some (vR 1), some (vI x), some (vI 24)]) (st' := [vR 1, vR 1]) rfl ?_
    refine g_getI rfl (g_A (a := 1) (kd := 0) (n := 8) rfl (by decide)) (show _ = nI n from kns3_1_1) ?_
    refine g_pure 2 (i' := 22) (lv' := [some (vR 1), some (vI x), some (vI 24)]) (st' := [vI (nI n + 1), vR 1]) rfl ?_
    refine gW_eq (lv' := [some (vR 1), some (vI x), some (vI 24)]) (st' := [vI (nI (n + 1)), vR 1]) rfl (by rw [(show (nI n + 1) = nI (n + 1) from ((g_add (rfl : nI n = nI n) (show (1 : Int32) = nI 1 from rfl))).trans (congrArg nI (by omega)))]) rfl ?_
    refine g_putI rfl (g_A (a := 1) (kd := 0) (n := 8) rfl (by decide)) ?_
    refine g_setv (fun s4 es4 => ?_)
    have kns4_1_1 : s4 1 1 = nI (n + 1) := by rw [es4]; exact mu_self.trans ((rfl : nI (n + 1) = nI (n + 1)))
    refine g_pure 2 (i' := 2) (lv' := [some (vR 1), some (vI x), some (vI (24 + -8))]) (st' := []) rfl ?_
    refine gW_eq (lv' := [some (vR 1), some (vI x), some (vI 16)]) (st' := []) (by rw [(show ((24 + -8) : Int32) = 16 from rfl)]) rfl rfl ?_
    exact o2 h2 s3 es3 s4 es4

theorem b_66_l16 {X : Nat × (Nat → Int32)} {d : Nat} {p : Nat → Nat} {sg : Mg} {Q : am_R → Prop} {n : Nat} (u_n : n ≤ 400) (kn_1_1 : sg 1 1 = nI n) {x : Int32}
    (o1 : (400 ≤ n) → Q (gR0 p sg))
    (o2 : (¬ (400 ≤ n)) → ∀ s3 : Mg, s3 = mu sg 2 n (vp_nar .byte ((((x : Int32).toUInt32 >>> ((16 : Int32).toUInt32 &&& Int32.toUInt32 31)).toInt32).toInt8.toInt32)) → ∀ s4 : Mg, s4 = mu s3 1 1 (nI (n + 1)) → gW X (d + 1) k_66 2 [some (vR 1), some (vI x), some (vI 8)] [] p s4 Q) :
    gW X (d + 1) k_66 2 [some (vR 1), some (vI x), some (vI 16)] [] p sg Q := by
  refine g_pure 1 (i' := 3) (lv' := [some (vR 1), some (vI x), some (vI 16)]) (st' := [vI 16]) rfl ?_
  refine g_if1 (i' := 25) (P := 16 < 0) rfl rfl (g_ltN (show 16 = nI 16 from (show (16 : Int32) = nI 16 from rfl)) (show 0 = nI 0 from (show (0 : Int32) = nI 0 from rfl)) (by omega) (by omega)) (fun h1 => absurd h1 (by omega)) (fun _ => ?_)
  refine g_pure 1 (i' := 5) (lv' := [some (vR 1), some (vI x), some (vI 16)]) (st' := [vR 1]) rfl ?_
  refine g_getI rfl (g_A (a := 1) (kd := 0) (n := 8) rfl (by decide)) (show _ = nI n from kn_1_1) ?_
  refine g_pure 1 (i' := 7) (lv' := [some (vR 1), some (vI x), some (vI 16)]) (st' := [vI 400, vI (nI n)]) rfl ?_
  refine g_if2 (i' := 25) (P := 400 ≤ n) rfl rfl (g_geN (show nI n = nI n from (rfl : nI n = nI n)) (show 400 = nI 400 from (show (400 : Int32) = nI 400 from rfl)) (by omega) (by omega)) (fun h2 => ?_) (fun h2 => ?_)
  · refine g_vret rfl ?_
    exact o1 h2
  · refine g_pure 3 (i' := 11) (lv' := [some (vR 1), some (vI x), some (vI 16)]) (st' := [vR 1, vR 2]) rfl ?_
    refine g_getI rfl (g_A (a := 1) (kd := 0) (n := 8) rfl (by decide)) (show _ = nI n from kn_1_1) ?_
    refine g_pure 4 (i' := 16) (lv' := [some (vR 1), some (vI x), some (vI 16)]) (st' := [vI ((((x : Int32).toUInt32 >>> ((16 : Int32).toUInt32 &&& Int32.toUInt32 31)).toInt32).toInt8.toInt32), vI (nI n), vR 2]) rfl ?_
    refine g_bast2 rfl (g_A (a := 2) (kd := 2) (n := 400) rfl (by decide)) (by decide) (show nI n = nI n from (rfl : nI n = nI n)) (by omega) ?_
    refine g_setv (fun s3 es3 => ?_)
    have kns3_1_1 : s3 1 1 = nI n := by rw [es3, mu_ne (by decide)]; exact kn_1_1
    refine g_pure 2 (i' := 19) (lv' := [some (vR 1), some (vI x), some (vI 16)]) (st' := [vR 1, vR 1]) rfl ?_
    refine g_getI rfl (g_A (a := 1) (kd := 0) (n := 8) rfl (by decide)) (show _ = nI n from kns3_1_1) ?_
    refine g_pure 2 (i' := 22) (lv' := [some (vR 1), some (vI x), some (vI 16)]) (st' := [vI (nI n + 1), vR 1]) rfl ?_
    refine gW_eq (lv' := [some (vR 1), some (vI x), some (vI 16)]) (st' := [vI (nI (n + 1)), vR 1]) rfl (by rw [(show (nI n + 1) = nI (n + 1) from ((g_add (rfl : nI n = nI n) (show (1 : Int32) = nI 1 from rfl))).trans (congrArg nI (by omega)))]) rfl ?_
    refine g_putI rfl (g_A (a := 1) (kd := 0) (n := 8) rfl (by decide)) ?_
    refine g_setv (fun s4 es4 => ?_)
    have kns4_1_1 : s4 1 1 = nI (n + 1) := by rw [es4]; exact mu_self.trans ((rfl : nI (n + 1) = nI (n + 1)))
    refine g_pure 2 (i' := 2) (lv' := [some (vR 1), some (vI x), some (vI (16 + -8))]) (st' := []) rfl ?_
    refine gW_eq (lv' := [some (vR 1), some (vI x), some (vI 8)]) (st' := []) (by rw [(show ((16 + -8) : Int32) = 8 from rfl)]) rfl rfl ?_
    exact o2 h2 s3 es3 s4 es4

theorem b_66_l8 {X : Nat × (Nat → Int32)} {d : Nat} {p : Nat → Nat} {sg : Mg} {Q : am_R → Prop} {n : Nat} (u_n : n ≤ 400) (kn_1_1 : sg 1 1 = nI n) {x : Int32}
    (o1 : (400 ≤ n) → Q (gR0 p sg))
    (o2 : (¬ (400 ≤ n)) → ∀ s3 : Mg, s3 = mu sg 2 n (vp_nar .byte ((((x : Int32).toUInt32 >>> ((8 : Int32).toUInt32 &&& Int32.toUInt32 31)).toInt32).toInt8.toInt32)) → ∀ s4 : Mg, s4 = mu s3 1 1 (nI (n + 1)) → gW X (d + 1) k_66 2 [some (vR 1), some (vI x), some (vI 0)] [] p s4 Q) :
    gW X (d + 1) k_66 2 [some (vR 1), some (vI x), some (vI 8)] [] p sg Q := by
  refine g_pure 1 (i' := 3) (lv' := [some (vR 1), some (vI x), some (vI 8)]) (st' := [vI 8]) rfl ?_
  refine g_if1 (i' := 25) (P := 8 < 0) rfl rfl (g_ltN (show 8 = nI 8 from (show (8 : Int32) = nI 8 from rfl)) (show 0 = nI 0 from (show (0 : Int32) = nI 0 from rfl)) (by omega) (by omega)) (fun h1 => absurd h1 (by omega)) (fun _ => ?_)
  refine g_pure 1 (i' := 5) (lv' := [some (vR 1), some (vI x), some (vI 8)]) (st' := [vR 1]) rfl ?_
  refine g_getI rfl (g_A (a := 1) (kd := 0) (n := 8) rfl (by decide)) (show _ = nI n from kn_1_1) ?_
  refine g_pure 1 (i' := 7) (lv' := [some (vR 1), some (vI x), some (vI 8)]) (st' := [vI 400, vI (nI n)]) rfl ?_
  refine g_if2 (i' := 25) (P := 400 ≤ n) rfl rfl (g_geN (show nI n = nI n from (rfl : nI n = nI n)) (show 400 = nI 400 from (show (400 : Int32) = nI 400 from rfl)) (by omega) (by omega)) (fun h2 => ?_) (fun h2 => ?_)
  · refine g_vret rfl ?_
    exact o1 h2
  · refine g_pure 3 (i' := 11) (lv' := [some (vR 1), some (vI x), some (vI 8)]) (st' := [vR 1, vR 2]) rfl ?_
    refine g_getI rfl (g_A (a := 1) (kd := 0) (n := 8) rfl (by decide)) (show _ = nI n from kn_1_1) ?_
    refine g_pure 4 (i' := 16) (lv' := [some (vR 1), some (vI x), some (vI 8)]) (st' := [vI ((((x : Int32).toUInt32 >>> ((8 : Int32).toUInt32 &&& Int32.toUInt32 31)).toInt32).toInt8.toInt32), vI (nI n), vR 2]) rfl ?_
    refine g_bast2 rfl (g_A (a := 2) (kd := 2) (n := 400) rfl (by decide)) (by decide) (show nI n = nI n from (rfl : nI n = nI n)) (by omega) ?_
    refine g_setv (fun s3 es3 => ?_)
    have kns3_1_1 : s3 1 1 = nI n := by rw [es3, mu_ne (by decide)]; exact kn_1_1
    refine g_pure 2 (i' := 19) (lv' := [some (vR 1), some (vI x), some (vI 8)]) (st' := [vR 1, vR 1]) rfl ?_
    refine g_getI rfl (g_A (a := 1) (kd := 0) (n := 8) rfl (by decide)) (show _ = nI n from kns3_1_1) ?_
    refine g_pure 2 (i' := 22) (lv' := [some (vR 1), some (vI x), some (vI 8)]) (st' := [vI (nI n + 1), vR 1]) rfl ?_
    refine gW_eq (lv' := [some (vR 1), some (vI x), some (vI 8)]) (st' := [vI (nI (n + 1)), vR 1]) rfl (by rw [(show (nI n + 1) = nI (n + 1) from ((g_add (rfl : nI n = nI n) (show (1 : Int32) = nI 1 from rfl))).trans (congrArg nI (by omega)))]) rfl ?_
    refine g_putI rfl (g_A (a := 1) (kd := 0) (n := 8) rfl (by decide)) ?_
    refine g_setv (fun s4 es4 => ?_)
    have kns4_1_1 : s4 1 1 = nI (n + 1) := by rw [es4]; exact mu_self.trans ((rfl : nI (n + 1) = nI (n + 1)))
    refine g_pure 2 (i' := 2) (lv' := [some (vR 1), some (vI x), some (vI (8 + -8))]) (st' := []) rfl ?_
    refine gW_eq (lv' := [some (vR 1), some (vI x), some (vI 0)]) (st' := []) (by rw [(show ((8 + -8) : Int32) = 0 from rfl)]) rfl rfl ?_
    exact o2 h2 s3 es3 s4 es4

theorem b_66_l0 {X : Nat × (Nat → Int32)} {d : Nat} {p : Nat → Nat} {sg : Mg} {Q : am_R → Prop} {n : Nat} (u_n : n ≤ 400) (kn_1_1 : sg 1 1 = nI n) {x : Int32}
    (o1 : (400 ≤ n) → Q (gR0 p sg))
    (o2 : (¬ (400 ≤ n)) → ∀ s3 : Mg, s3 = mu sg 2 n (vp_nar .byte ((((x : Int32).toUInt32 >>> ((0 : Int32).toUInt32 &&& Int32.toUInt32 31)).toInt32).toInt8.toInt32)) → ∀ s4 : Mg, s4 = mu s3 1 1 (nI (n + 1)) → gW X (d + 1) k_66 2 [some (vR 1), some (vI x), some (vI (0 + -8))] [] p s4 Q) :
    gW X (d + 1) k_66 2 [some (vR 1), some (vI x), some (vI 0)] [] p sg Q := by
  refine g_pure 1 (i' := 3) (lv' := [some (vR 1), some (vI x), some (vI 0)]) (st' := [vI 0]) rfl ?_
  refine g_if1 (i' := 25) (P := 0 < 0) rfl rfl (g_ltN (show 0 = nI 0 from (show (0 : Int32) = nI 0 from rfl)) (show 0 = nI 0 from (show (0 : Int32) = nI 0 from rfl)) (by omega) (by omega)) (fun h1 => absurd h1 (by omega)) (fun _ => ?_)
  refine g_pure 1 (i' := 5) (lv' := [some (vR 1), some (vI x), some (vI 0)]) (st' := [vR 1]) rfl ?_
  refine g_getI rfl (g_A (a := 1) (kd := 0) (n := 8) rfl (by decide)) (show _ = nI n from kn_1_1) ?_
  refine g_pure 1 (i' := 7) (lv' := [some (vR 1), some (vI x), some (vI 0)]) (st' := [vI 400, vI (nI n)]) rfl ?_
  refine g_if2 (i' := 25) (P := 400 ≤ n) rfl rfl (g_geN (show nI n = nI n from (rfl : nI n = nI n)) (show 400 = nI 400 from (show (400 : Int32) = nI 400 from rfl)) (by omega) (by omega)) (fun h2 => ?_) (fun h2 => ?_)
  · refine g_vret rfl ?_
    exact o1 h2
  · refine g_pure 3 (i' := 11) (lv' := [some (vR 1), some (vI x), some (vI 0)]) (st' := [vR 1, vR 2]) rfl ?_
    refine g_getI rfl (g_A (a := 1) (kd := 0) (n := 8) rfl (by decide)) (show _ = nI n from kn_1_1) ?_
    refine g_pure 4 (i' := 16) (lv' := [some (vR 1), some (vI x), some (vI 0)]) (st' := [vI ((((x : Int32).toUInt32 >>> ((0 : Int32).toUInt32 &&& Int32.toUInt32 31)).toInt32).toInt8.toInt32), vI (nI n), vR 2]) rfl ?_
    refine g_bast2 rfl (g_A (a := 2) (kd := 2) (n := 400) rfl (by decide)) (by decide) (show nI n = nI n from (rfl : nI n = nI n)) (by omega) ?_
    refine g_setv (fun s3 es3 => ?_)
    have kns3_1_1 : s3 1 1 = nI n := by rw [es3, mu_ne (by decide)]; exact kn_1_1
    refine g_pure 2 (i' := 19) (lv' := [some (vR 1), some (vI x), some (vI 0)]) (st' := [vR 1, vR 1]) rfl ?_
    refine g_getI rfl (g_A (a := 1) (kd := 0) (n := 8) rfl (by decide)) (show _ = nI n from kns3_1_1) ?_
    refine g_pure 2 (i' := 22) (lv' := [some (vR 1), some (vI x), some (vI 0)]) (st' := [vI (nI n + 1), vR 1]) rfl ?_
    refine gW_eq (lv' := [some (vR 1), some (vI x), some (vI 0)]) (st' := [vI (nI (n + 1)), vR 1]) rfl (by rw [(show (nI n + 1) = nI (n + 1) from ((g_add (rfl : nI n = nI n) (show (1 : Int32) = nI 1 from rfl))).trans (congrArg nI (by omega)))]) rfl ?_
    refine g_putI rfl (g_A (a := 1) (kd := 0) (n := 8) rfl (by decide)) ?_
    refine g_setv (fun s4 es4 => ?_)
    have kns4_1_1 : s4 1 1 = nI (n + 1) := by rw [es4]; exact mu_self.trans ((rfl : nI (n + 1) = nI (n + 1)))
    refine g_pure 2 (i' := 2) (lv' := [some (vR 1), some (vI x), some (vI (0 + -8))]) (st' := []) rfl ?_
    exact o2 h2 s3 es3 s4 es4

theorem b_66_m8 {X : Nat × (Nat → Int32)} {d : Nat} {p : Nat → Nat} {sg : Mg} {Q : am_R → Prop} {x : Int32}
    (o1 : Q (gR0 p sg)) :
    gW X (d + 1) k_66 2 [some (vR 1), some (vI x), some (vI (-8))] [] p sg Q := by
  refine g_pure 1 (i' := 3) (lv' := [some (vR 1), some (vI x), some (vI (-8))]) (st' := [vI (-8)]) rfl ?_
  refine g_if1 (i' := 25) (P := ((-8) : Int32) < 0) rfl rfl Iff.rfl (fun _ => ?_) (fun h1 => absurd (by decide) h1)
  refine g_vret rfl ?_
  exact o1

theorem b_65_0 {X : Nat × (Nat → Int32)} {d : Nat} {p : Nat → Nat} {sg : Mg} {Q : am_R → Prop} {n : Nat} (u_n : n ≤ 400) (kn_1_1 : sg 1 1 = nI n) {a : Int32} {b : Int32} {x : Int32} {y : Int32} {z : Int32}
    (o1 : (20 + n ≤ 400) → gW X (d + 2) k_65 8 [some (vR 1), some (vI a), some (vI b), some (vI x), some (vI y), some (vI z)] [] p sg Q)
    (o2 : (¬ (20 + n ≤ 400)) → Q (gRv p sg (-1))) :
    gW X (d + 2) k_65 0 [some (vR 1), some (vI a), some (vI b), some (vI x), some (vI y), some (vI z)] [] p sg Q := by
  refine g_pure 1 (i' := 1) (lv' := [some (vR 1), some (vI a), some (vI b), some (vI x), some (vI y), some (vI z)]) (st' := [vR 1]) rfl ?_
  refine g_getI rfl (g_A (a := 1) (kd := 0) (n := 8) rfl (by decide)) (show _ = nI n from kn_1_1) ?_
  refine g_pure 3 (i' := 5) (lv' := [some (vR 1), some (vI a), some (vI b), some (vI x), some (vI y), some (vI z)]) (st' := [vI 400, vI (nI n + 20)]) rfl ?_
  refine gW_eq (lv' := [some (vR 1), some (vI a), some (vI b), some (vI x), some (vI y), some (vI z)]) (st' := [vI 400, vI (nI (20 + n))]) rfl (by rw [(show (nI n + 20) = nI (20 + n) from ((g_add (rfl : nI n = nI n) (show (20 : Int32) = nI 20 from rfl))).trans (congrArg nI (by omega)))]) rfl ?_
  refine g_if2 (i' := 8) (P := 20 + n ≤ 400) rfl rfl (g_leN (show nI (20 + n) = nI (20 + n) from (rfl : nI (20 + n) = nI (20 + n))) (show 400 = nI 400 from (show (400 : Int32) = nI 400 from rfl)) (by omega) (by omega)) (fun h1 => ?_) (fun h1 => ?_)
  · exact o1 h1
  · refine g_pure 1 (i' := 7) (lv' := [some (vR 1), some (vI a), some (vI b), some (vI x), some (vI y), some (vI z)]) (st' := [vI (-1)]) rfl ?_
    refine g_iret rfl ?_
    exact o2 h1

theorem b_67_0 {X : Nat × (Nat → Int32)} {d : Nat} {p : Nat → Nat} {sg : Mg} {Q : am_R → Prop} {n : Nat} (u_n : n ≤ 400) (kn_1_1 : sg 1 1 = nI n) {x : Int32}
    (o1 : (x < 0) → Q (gRv p sg 0))
    (o2 : (¬ (x < 0)) → (x ≤ nI n) → ∀ s3 : Mg, s3 = mu sg 1 1 x → Q (gRv p s3 1))
    (o3 : (¬ (x < 0)) → (¬ (x ≤ nI n)) → Q (gRv p sg 0)) :
    gW X (d + 1) k_67 0 [some (vR 1), some (vI x)] [] p sg Q := by
  refine g_pure 1 (i' := 1) (lv' := [some (vR 1), some (vI x)]) (st' := [vI x]) rfl ?_
  refine g_if1 (i' := 6) (P := x < 0) rfl rfl Iff.rfl (fun h1 => ?_) (fun h1 => ?_)
  · refine g_pure 1 (i' := 7) (lv' := [some (vR 1), some (vI x)]) (st' := [vI 0]) rfl ?_
    refine g_bret rfl g_nar0 ?_
    exact o1 h1
  · refine g_pure 2 (i' := 4) (lv' := [some (vR 1), some (vI x)]) (st' := [vR 1, vI x]) rfl ?_
    refine g_getI rfl (g_A (a := 1) (kd := 0) (n := 8) rfl (by decide)) (show _ = nI n from kn_1_1) ?_
    refine g_if2 (i' := 8) (P := x ≤ nI n) rfl rfl Iff.rfl (fun h2 => ?_) (fun h2 => ?_)
    · refine g_pure 2 (i' := 10) (lv' := [some (vR 1), some (vI x)]) (st' := [vI x, vR 1]) rfl ?_
      refine g_putI rfl (g_A (a := 1) (kd := 0) (n := 8) rfl (by decide)) ?_
      refine g_setv (fun s3 es3 => ?_)
      refine g_pure 1 (i' := 12) (lv' := [some (vR 1), some (vI x)]) (st' := [vI 1]) rfl ?_
      refine g_bret rfl g_nar1 ?_
      exact o2 h1 h2 s3 es3
    · refine g_pure 1 (i' := 7) (lv' := [some (vR 1), some (vI x)]) (st' := [vI 0]) rfl ?_
      refine g_bret rfl g_nar0 ?_
      exact o3 h1 h2

theorem b_69_0 {X : Nat × (Nat → Int32)} {d : Nat} {p : Nat → Nat} {sg : Mg} {Q : am_R → Prop} {n : Nat} (u_n : n ≤ 400) (kn_1_1 : sg 1 1 = nI n)
    (o1 : ∀ s1 : Mg, s1 = mu sg 1 2 (nI n) → ∀ s2 : Mg, s2 = mu s1 1 1 0 → Q (gRv p s2 (s2 1 2))) :
    gW X (d + 1) k_69 0 [some (vR 1)] [] p sg Q := by
  refine g_pure 2 (i' := 2) (lv' := [some (vR 1)]) (st' := [vR 1, vR 1]) rfl ?_
  refine g_getI rfl (g_A (a := 1) (kd := 0) (n := 8) rfl (by decide)) (show _ = nI n from kn_1_1) ?_
  refine g_putI rfl (g_A (a := 1) (kd := 0) (n := 8) rfl (by decide)) ?_
  refine g_setv (fun s1 es1 => ?_)
  have kns1_1_1 : s1 1 1 = nI n := by rw [es1, mu_idx (by decide)]; exact kn_1_1
  refine g_pure 2 (i' := 6) (lv' := [some (vR 1)]) (st' := [vI 0, vR 1]) rfl ?_
  refine g_putI rfl (g_A (a := 1) (kd := 0) (n := 8) rfl (by decide)) ?_
  refine g_setv (fun s2 es2 => ?_)
  have kns2_1_1 : s2 1 1 = nI 0 := by rw [es2]; exact mu_self.trans ((show (0 : Int32) = nI 0 from rfl))
  refine g_pure 2 (i' := 9) (lv' := [some (vR 1)]) (st' := [vI (s2 1 2)]) rfl ?_
  refine g_iret rfl ?_
  exact o1 s1 es1 s2 es2

theorem b_182_0 {X : Nat × (Nat → Int32)} {d : Nat} {p : Nat → Nat} {sg : Mg} {Q : am_R → Prop} {n : Nat} (u_n : n ≤ 400) (kn_800_8 : sg 800 8 = nI n) {a : Int32} {b : Int32} {x : Int32} {y : Int32} {z : Int32}
    (o1 : ∀ s1 : Mg, s1 = mu sg 800 0 0 → (20 + n ≤ 400) → ∀ s3 : Mg, s3 = mu s1 806 0 a → ∀ s4 : Mg, s4 = mu s3 806 1 b → ∀ s5 : Mg, s5 = mu s4 806 2 x → ∀ s6 : Mg, s6 = mu s5 806 3 y → ∀ s7 : Mg, s7 = mu s6 806 4 z → gW X (d + 1) k_182 38 [some (vR 800), some (vI a), some (vI b), some (vI x), some (vI y), some (vI z), some (vI 0)] [] p s7 Q)
    (o2 : ∀ s1 : Mg, s1 = mu sg 800 0 0 → (¬ (20 + n ≤ 400)) → Q (gRv p s1 (-1))) :
    gW X (d + 1) k_182 0 [some (vR 800), some (vI a), some (vI b), some (vI x), some (vI y), some (vI z), none] [] p sg Q := by
  refine g_pure 2 (i' := 2) (lv' := [some (vR 800), some (vI a), some (vI b), some (vI x), some (vI y), some (vI z), none]) (st' := [vI 0, vR 800]) rfl ?_
  refine g_putI rfl (g_A (a := 800) (kd := 0) (n := 12) rfl (by decide)) ?_
  refine g_setv (fun s1 es1 => ?_)
  have kns1_800_8 : s1 800 8 = nI n := by rw [es1, mu_idx (by decide)]; exact kn_800_8
  refine g_pure 1 (i' := 4) (lv' := [some (vR 800), some (vI a), some (vI b), some (vI x), some (vI y), some (vI z), none]) (st' := [vR 800]) rfl ?_
  refine g_getI rfl (g_A (a := 800) (kd := 0) (n := 12) rfl (by decide)) (show _ = nI n from kns1_800_8) ?_
  refine g_pure 3 (i' := 8) (lv' := [some (vR 800), some (vI a), some (vI b), some (vI x), some (vI y), some (vI z), none]) (st' := [vI 400, vI (nI n + 20)]) rfl ?_
  refine gW_eq (lv' := [some (vR 800), some (vI a), some (vI b), some (vI x), some (vI y), some (vI z), none]) (st' := [vI 400, vI (nI (20 + n))]) rfl (by rw [(show (nI n + 20) = nI (20 + n) from ((g_add (rfl : nI n = nI n) (show (20 : Int32) = nI 20 from rfl))).trans (congrArg nI (by omega)))]) rfl ?_
  refine g_if2 (i' := 11) (P := 20 + n ≤ 400) rfl rfl (g_leN (show nI (20 + n) = nI (20 + n) from (rfl : nI (20 + n) = nI (20 + n))) (show 400 = nI 400 from (show (400 : Int32) = nI 400 from rfl)) (by omega) (by omega)) (fun h2 => ?_) (fun h2 => ?_)
  · refine g_pure 4 (i' := 15) (lv' := [some (vR 800), some (vI a), some (vI b), some (vI x), some (vI y), some (vI z), none]) (st' := [vI a, vI 0, vR 806]) rfl ?_
    refine g_ast rfl (g_A (a := 806) (kd := 1) (n := 5) rfl (by decide)) (by decide) (show 0 = nI 0 from (show (0 : Int32) = nI 0 from rfl)) (by decide) ?_
    refine g_setv (fun s3 es3 => ?_)
    have kns3_800_8 : s3 800 8 = nI n := by rw [es3, mu_ne (by decide)]; exact kns1_800_8
    refine g_pure 4 (i' := 20) (lv' := [some (vR 800), some (vI a), some (vI b), some (vI x), some (vI y), some (vI z), none]) (st' := [vI b, vI 1, vR 806]) rfl ?_
    refine g_ast rfl (g_A (a := 806) (kd := 1) (n := 5) rfl (by decide)) (by decide) (show 1 = nI 1 from (show (1 : Int32) = nI 1 from rfl)) (by decide) ?_
    refine g_setv (fun s4 es4 => ?_)
    have kns4_800_8 : s4 800 8 = nI n := by rw [es4, mu_ne (by decide)]; exact kns3_800_8
    refine g_pure 4 (i' := 25) (lv' := [some (vR 800), some (vI a), some (vI b), some (vI x), some (vI y), some (vI z), none]) (st' := [vI x, vI 2, vR 806]) rfl ?_
    refine g_ast rfl (g_A (a := 806) (kd := 1) (n := 5) rfl (by decide)) (by decide) (show 2 = nI 2 from (show (2 : Int32) = nI 2 from rfl)) (by decide) ?_
    refine g_setv (fun s5 es5 => ?_)
    have kns5_800_8 : s5 800 8 = nI n := by rw [es5, mu_ne (by decide)]; exact kns4_800_8
    refine g_pure 4 (i' := 30) (lv' := [some (vR 800), some (vI a), some (vI b), some (vI x), some (vI y), some (vI z), none]) (st' := [vI y, vI 3, vR 806]) rfl ?_
    refine g_ast rfl (g_A (a := 806) (kd := 1) (n := 5) rfl (by decide)) (by decide) (show 3 = nI 3 from (show (3 : Int32) = nI 3 from rfl)) (by decide) ?_
    refine g_setv (fun s6 es6 => ?_)
    have kns6_800_8 : s6 800 8 = nI n := by rw [es6, mu_ne (by decide)]; exact kns5_800_8
    refine g_pure 4 (i' := 35) (lv' := [some (vR 800), some (vI a), some (vI b), some (vI x), some (vI y), some (vI z), none]) (st' := [vI z, vI 4, vR 806]) rfl ?_
    refine g_ast rfl (g_A (a := 806) (kd := 1) (n := 5) rfl (by decide)) (by decide) (show 4 = nI 4 from (show (4 : Int32) = nI 4 from rfl)) (by decide) ?_
    refine g_setv (fun s7 es7 => ?_)
    have kns7_800_8 : s7 800 8 = nI n := by rw [es7, mu_ne (by decide)]; exact kns6_800_8
    refine g_pure 2 (i' := 38) (lv' := [some (vR 800), some (vI a), some (vI b), some (vI x), some (vI y), some (vI z), some (vI 0)]) (st' := []) rfl ?_
    exact o1 s1 es1 h2 s3 es3 s4 es4 s5 es5 s6 es6 s7 es7
  · refine g_pure 1 (i' := 10) (lv' := [some (vR 800), some (vI a), some (vI b), some (vI x), some (vI y), some (vI z), none]) (st' := [vI (-1)]) rfl ?_
    refine g_iret rfl ?_
    exact o2 s1 es1 h2

theorem b_182_38 {X : Nat × (Nat → Int32)} {d : Nat} {p : Nat → Nat} {sg : Mg} {Q : am_R → Prop} {n : Nat} (u_n : n ≤ 380) (kn_800_8 : sg 800 8 = nI n) {z0 : Option AV} {z1 : Option AV} {z2 : Option AV} {z3 : Option AV} {z4 : Option AV} {j : Nat} (u_j : j ≤ 20)
    (o1 : (20 ≤ j) → ∀ s2 : Mg, s2 = mu sg 800 8 (nI (20 + n)) → Q (gRv p s2 (nI (20 + n))))
    (o2 : (¬ (20 ≤ j)) → ∀ s5 : Mg, s5 = mu sg 805 (n + j) (vp_nar .byte ((sg 806 (j / 4) >>> ((24 - nI (8 * (j % 4))) &&& 31)).toInt8.toInt32)) → gW X (d + 1) k_182 38 [some (vR 800), z0, z1, z2, z3, z4, some (vI (nI (j + 1)))] [] p s5 Q) :
    gW X (d + 1) k_182 38 [some (vR 800), z0, z1, z2, z3, z4, some (vI (nI j))] [] p sg Q := by
  refine g_pure 2 (i' := 40) (lv' := [some (vR 800), z0, z1, z2, z3, z4, some (vI (nI j))]) (st' := [vI 20, vI (nI j)]) rfl ?_
  refine g_if2 (i' := 65) (P := 20 ≤ j) rfl rfl (g_geN (show nI j = nI j from (rfl : nI j = nI j)) (show 20 = nI 20 from (show (20 : Int32) = nI 20 from rfl)) (by omega) (by omega)) (fun h1 => ?_) (fun h1 => ?_)
  · refine g_pure 2 (i' := 67) (lv' := [some (vR 800), z0, z1, z2, z3, z4, some (vI (nI j))]) (st' := [vR 800, vR 800]) rfl ?_
    refine g_getI rfl (g_A (a := 800) (kd := 0) (n := 12) rfl (by decide)) (show _ = nI n from kn_800_8) ?_
    refine g_pure 2 (i' := 70) (lv' := [some (vR 800), z0, z1, z2, z3, z4, some (vI (nI j))]) (st' := [vI (nI n + 20), vR 800]) rfl ?_
    refine gW_eq (lv' := [some (vR 800), z0, z1, z2, z3, z4, some (vI (nI j))]) (st' := [vI (nI (20 + n)), vR 800]) rfl (by rw [(show (nI n + 20) = nI (20 + n) from ((g_add (rfl : nI n = nI n) (show (20 : Int32) = nI 20 from rfl))).trans (congrArg nI (by omega)))]) rfl ?_
    refine g_putI rfl (g_A (a := 800) (kd := 0) (n := 12) rfl (by decide)) ?_
    refine g_setv (fun s2 es2 => ?_)
    have kns2_800_8 : s2 800 8 = nI (20 + n) := by rw [es2]; exact mu_self.trans ((rfl : nI (20 + n) = nI (20 + n)))
    refine g_pure 1 (i' := 72) (lv' := [some (vR 800), z0, z1, z2, z3, z4, some (vI (nI j))]) (st' := [vR 800]) rfl ?_
    refine g_getI rfl (g_A (a := 800) (kd := 0) (n := 12) rfl (by decide)) (show _ = nI (20 + n) from kns2_800_8) ?_
    refine g_iret rfl ?_
    exact o1 h1 s2 es2
  · refine g_pure 3 (i' := 44) (lv' := [some (vR 800), z0, z1, z2, z3, z4, some (vI (nI j))]) (st' := [vR 800, vR 805]) rfl ?_
    refine g_getI rfl (g_A (a := 800) (kd := 0) (n := 12) rfl (by decide)) (show _ = nI n from kn_800_8) ?_
    refine g_pure 6 (i' := 51) (lv' := [some (vR 800), z0, z1, z2, z3, z4, some (vI (nI j))]) (st' := [vI 4, vI (nI j), vR 806, vI (nI n + nI j), vR 805]) rfl ?_
    refine gW_eq (lv' := [some (vR 800), z0, z1, z2, z3, z4, some (vI (nI j))]) (st' := [vI 4, vI (nI j), vR 806, vI (nI (n + j)), vR 805]) rfl (by rw [(show (nI n + nI j) = nI (n + j) from ((g_add (rfl : nI n = nI n) (rfl : nI j = nI j))).trans (congrArg nI (by omega)))]) rfl ?_
    refine g_div rfl (g_nz (show (4 : Int32) = nI 4 from rfl) (by omega) (by omega)) ?_
    have t3 : (j / 4) ≤ j := Nat.div_le_self _ _
    refine gW_eq (lv' := [some (vR 800), z0, z1, z2, z3, z4, some (vI (nI j))]) (st' := [vI (nI (j / 4)), vR 806, vI (nI (n + j)), vR 805]) rfl (by rw [(show (nI j / 4) = nI (j / 4) from (g_divN (rfl : nI j = nI j) (show (4 : Int32) = nI 4 from rfl) (by omega) (by omega) (by omega)))]) rfl ?_
    refine g_ald rfl (g_A (a := 806) (kd := 1) (n := 5) rfl (by decide)) (by decide) (show nI (j / 4) = nI (j / 4) from (rfl : nI (j / 4) = nI (j / 4))) (by omega) (show _ = sg 806 (j / 4) from rfl) ?_
    refine g_pure 4 (i' := 57) (lv' := [some (vR 800), z0, z1, z2, z3, z4, some (vI (nI j))]) (st' := [vI 4, vI (nI j), vI 8, vI 24, vI (sg 806 (j / 4)), vI (nI (n + j)), vR 805]) rfl ?_
    refine g_rem rfl (g_nz (show (4 : Int32) = nI 4 from rfl) (by omega) (by omega)) ?_
    have t4 : (j % 4) < 4 := Nat.mod_lt _ (by omega)
    refine g_pure 1 (i' := 59) (lv' := [some (vR 800), z0, z1, z2, z3, z4, some (vI (nI j))]) (st' := [vI (8 * (nI j - nI j / 4 * 4)), vI 24, vI (sg 806 (j / 4)), vI (nI (n + j)), vR 805]) rfl ?_
    refine gW_eq (lv' := [some (vR 800), z0, z1, z2, z3, z4, some (vI (nI j))]) (st' := [vI (nI (8 * (j % 4))), vI 24, vI (sg 806 (j / 4)), vI (nI (n + j)), vR 805]) rfl (by rw [(show (8 * (nI j - nI j / 4 * 4)) = nI (8 * (j % 4)) from ((g_mul (show (8 : Int32) = nI 8 from rfl) (g_modN (rfl : nI j = nI j) (show (4 : Int32) = nI 4 from rfl) (by omega) (by omega) (by omega)))).trans (congrArg nI (by omega)))]) rfl ?_
    refine g_pure 3 (i' := 62) (lv' := [some (vR 800), z0, z1, z2, z3, z4, some (vI (nI j))]) (st' := [vI ((sg 806 (j / 4) >>> ((24 - nI (8 * (j % 4))) &&& 31)).toInt8.toInt32), vI (nI (n + j)), vR 805]) rfl ?_
    refine g_bast2 rfl (g_A (a := 805) (kd := 2) (n := 400) rfl (by decide)) (by decide) (show nI (n + j) = nI (n + j) from (rfl : nI (n + j) = nI (n + j))) (by omega) ?_
    refine g_setv (fun s5 es5 => ?_)
    have kns5_800_8 : s5 800 8 = nI n := by rw [es5, mu_ne (by decide)]; exact kn_800_8
    refine g_pure 2 (i' := 38) (lv' := [some (vR 800), z0, z1, z2, z3, z4, some (vI (nI j + 1))]) (st' := []) rfl ?_
    refine gW_eq (lv' := [some (vR 800), z0, z1, z2, z3, z4, some (vI (nI (j + 1)))]) (st' := []) (by rw [(show (nI j + 1) = nI (j + 1) from ((g_add (rfl : nI j = nI j) (show (1 : Int32) = nI 1 from rfl))).trans (congrArg nI (by omega)))]) rfl rfl ?_
    exact o2 h1 s5 es5

theorem b_183_0 {X : Nat × (Nat → Int32)} {d : Nat} {p : Nat → Nat} {sg : Mg} {Q : am_R → Prop} {n : Nat} (u_n : n ≤ 400) (kn_800_8 : sg 800 8 = nI n) {x : Int32}
    (o1 : ∀ s1 : Mg, s1 = mu sg 800 0 0 → (x < 0) → Q (gRv p s1 0))
    (o2 : ∀ s1 : Mg, s1 = mu sg 800 0 0 → (¬ (x < 0)) → (x ≤ nI n) → ∀ s4 : Mg, s4 = mu s1 800 8 x → Q (gRv p s4 1))
    (o3 : ∀ s1 : Mg, s1 = mu sg 800 0 0 → (¬ (x < 0)) → (¬ (x ≤ nI n)) → Q (gRv p s1 0)) :
    gW X (d + 1) k_183 0 [some (vR 800), some (vI x)] [] p sg Q := by
  refine g_pure 2 (i' := 2) (lv' := [some (vR 800), some (vI x)]) (st' := [vI 0, vR 800]) rfl ?_
  refine g_putI rfl (g_A (a := 800) (kd := 0) (n := 12) rfl (by decide)) ?_
  refine g_setv (fun s1 es1 => ?_)
  have kns1_800_8 : s1 800 8 = nI n := by rw [es1, mu_idx (by decide)]; exact kn_800_8
  refine g_pure 1 (i' := 4) (lv' := [some (vR 800), some (vI x)]) (st' := [vI x]) rfl ?_
  refine g_if1 (i' := 9) (P := x < 0) rfl rfl Iff.rfl (fun h2 => ?_) (fun h2 => ?_)
  · refine g_pure 1 (i' := 10) (lv' := [some (vR 800), some (vI x)]) (st' := [vI 0]) rfl ?_
    refine g_bret rfl g_nar0 ?_
    exact o1 s1 es1 h2
  · refine g_pure 2 (i' := 7) (lv' := [some (vR 800), some (vI x)]) (st' := [vR 800, vI x]) rfl ?_
    refine g_getI rfl (g_A (a := 800) (kd := 0) (n := 12) rfl (by decide)) (show _ = nI n from kns1_800_8) ?_
    refine g_if2 (i' := 11) (P := x ≤ nI n) rfl rfl Iff.rfl (fun h3 => ?_) (fun h3 => ?_)
    · refine g_pure 2 (i' := 13) (lv' := [some (vR 800), some (vI x)]) (st' := [vI x, vR 800]) rfl ?_
      refine g_putI rfl (g_A (a := 800) (kd := 0) (n := 12) rfl (by decide)) ?_
      refine g_setv (fun s4 es4 => ?_)
      refine g_pure 1 (i' := 15) (lv' := [some (vR 800), some (vI x)]) (st' := [vI 1]) rfl ?_
      refine g_bret rfl g_nar1 ?_
      exact o2 s1 es1 h2 h3 s4 es4
    · refine g_pure 1 (i' := 10) (lv' := [some (vR 800), some (vI x)]) (st' := [vI 0]) rfl ?_
      refine g_bret rfl g_nar0 ?_
      exact o3 s1 es1 h2 h3

theorem b_184_0 {X : Nat × (Nat → Int32)} {d : Nat} {p : Nat → Nat} {sg : Mg} {Q : am_R → Prop}
    (o1 : ∀ s1 : Mg, s1 = mu sg 800 0 0 → Q (gRv p s1 (s1 800 13))) :
    gW X (d + 1) k_184 0 [some (vR 800)] [] p sg Q := by
  refine g_pure 2 (i' := 2) (lv' := [some (vR 800)]) (st' := [vI 0, vR 800]) rfl ?_
  refine g_putI rfl (g_A (a := 800) (kd := 0) (n := 12) rfl (by decide)) ?_
  refine g_setv (fun s1 es1 => ?_)
  refine g_pure 2 (i' := 5) (lv' := [some (vR 800)]) (st' := [vI (s1 800 13)]) rfl ?_
  refine g_iret rfl ?_
  exact o1 s1 es1

theorem b_187_0 {X : Nat × (Nat → Int32)} {d : Nat} {p : Nat → Nat} {sg : Mg} {Q : am_R → Prop} {n : Nat} (u_n : n ≤ 400) (kn_800_8 : sg 800 8 = nI n)
    (o1 : ∀ s1 : Mg, s1 = mu sg 800 0 0 → ∀ s2 : Mg, s2 = mu s1 800 10 (nI n) → ∀ s3 : Mg, s3 = mu s2 800 8 0 → ∀ s4 : Mg, s4 = mu s3 800 9 0 → Q (gR0 p s4)) :
    gW X (d + 1) k_187 0 [some (vR 800)] [] p sg Q := by
  refine g_pure 2 (i' := 2) (lv' := [some (vR 800)]) (st' := [vI 0, vR 800]) rfl ?_
  refine g_putI rfl (g_A (a := 800) (kd := 0) (n := 12) rfl (by decide)) ?_
  refine g_setv (fun s1 es1 => ?_)
  have kns1_800_8 : s1 800 8 = nI n := by rw [es1, mu_idx (by decide)]; exact kn_800_8
  refine g_pure 2 (i' := 5) (lv' := [some (vR 800)]) (st' := [vR 800, vR 800]) rfl ?_
  refine g_getI rfl (g_A (a := 800) (kd := 0) (n := 12) rfl (by decide)) (show _ = nI n from kns1_800_8) ?_
  refine g_putI rfl (g_A (a := 800) (kd := 0) (n := 12) rfl (by decide)) ?_
  refine g_setv (fun s2 es2 => ?_)
  have kns2_800_8 : s2 800 8 = nI n := by rw [es2, mu_idx (by decide)]; exact kns1_800_8
  refine g_pure 2 (i' := 9) (lv' := [some (vR 800)]) (st' := [vI 0, vR 800]) rfl ?_
  refine g_putI rfl (g_A (a := 800) (kd := 0) (n := 12) rfl (by decide)) ?_
  refine g_setv (fun s3 es3 => ?_)
  have kns3_800_8 : s3 800 8 = nI 0 := by rw [es3]; exact mu_self.trans ((show (0 : Int32) = nI 0 from rfl))
  refine g_pure 2 (i' := 12) (lv' := [some (vR 800)]) (st' := [vI 0, vR 800]) rfl ?_
  refine g_putI rfl (g_A (a := 800) (kd := 0) (n := 12) rfl (by decide)) ?_
  refine g_setv (fun s4 es4 => ?_)
  have kns4_800_8 : s4 800 8 = nI 0 := by rw [es4, mu_idx (by decide)]; exact kns3_800_8
  refine g_vret rfl ?_
  exact o1 s1 es1 s2 es2 s3 es3 s4 es4

/-- a byte of a number -/
def by8 (x : Int32) (k : Nat) : Int32 := vp_nar .byte ((x >>> (nI k &&& 31)).toInt8.toInt32)
theorem sh8 (b : BitVec 32) (s : Nat) (hs : s ≤ 24) : (b >>> s).signExtend 8 = (b.sshiftRight s).signExtend 8 := by
  refine BitVec.eq_of_getLsbD_eq (fun i hi => ?_)
  rw [BitVec.getLsbD_signExtend, BitVec.getLsbD_signExtend, BitVec.getLsbD_ushiftRight, BitVec.getLsbD_sshiftRight, if_pos (show i < 32 by omega), if_pos (show i < 32 by omega), if_pos (show s + i < 32 by omega), decide_eq_false (show ¬ 32 ≤ i by omega)]
  rfl
theorem by8_24 (x : Int32) : ((((x : Int32).toUInt32 >>> ((24 : Int32).toUInt32 &&& Int32.toUInt32 31)).toInt32).toInt8.toInt32) = (x >>> ((24 : Int32) &&& 31)).toInt8.toInt32 := congrArg (fun v : BitVec 8 => (Int8.ofBitVec v).toInt32) (sh8 x.toBitVec 24 (by decide))
