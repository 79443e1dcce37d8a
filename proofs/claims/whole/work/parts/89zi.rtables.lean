/-! TABLES: the reference (made by wip/whole/gen89zi.py) -/
theorem b_297_4 {X : Nat × (Nat → Int32)} {d : Nat} {p : Nat → Nat} {sg : Mg} {Q : am_R → Prop} {x y : Nat} {e : Nat} {W : Prop} [Decidable W] {j : Nat} (u_e : e ≤ 8) (u_j : j ≤ 8) (hx : j < e → sg 814 j = nI x) (hy : sg 814 e = nI y) (u_x : x ≤ 8) (u_y : y ≤ 8)
    (o1 : (e ≤ j) → gW X (d + 2) k_297 24 [some (vR 800), some (vI (nI e)), some (vI (if W then 1 else 0)), some (vI (nI j))] [] p sg Q)
    (o2 : (¬ (e ≤ j)) → (¬ W) → gW X (d + 2) k_297 24 [some (vR 800), some (vI (nI e)), some (vI (if W then 1 else 0)), some (vI (nI j))] [] p sg Q)
    (o3 : (¬ (e ≤ j)) → (W) → (x = y) → gW X (d + 2) k_297 4 [some (vR 800), some (vI (nI e)), some (vI 0), some (vI (nI (j + 1)))] [] p sg Q)
    (o4 : (¬ (e ≤ j)) → (W) → (¬ (x = y)) → gW X (d + 2) k_297 4 [some (vR 800), some (vI (nI e)), some (vI 1), some (vI (nI (j + 1)))] [] p sg Q) :
    gW X (d + 2) k_297 4 [some (vR 800), some (vI (nI e)), some (vI (if W then 1 else 0)), some (vI (nI j))] [] p sg Q := by
  refine g_pure 2 (i' := 6) (lv' := [some (vR 800), some (vI (nI e)), some (vI (if W then 1 else 0)), some (vI (nI j))]) (st' := [vI (nI e), vI (nI j)]) rfl ?_
  refine g_if2 (i' := 24) (P := e ≤ j) rfl rfl (g_geN (show nI j = nI j from (rfl : nI j = nI j)) (show nI e = nI e from (rfl : nI e = nI e)) (by omega) (by omega)) (fun h1 => ?_) (fun h1 => ?_)
  · exact o1 h1
  · refine g_pure 1 (i' := 8) (lv' := [some (vR 800), some (vI (nI e)), some (vI (if W then 1 else 0)), some (vI (nI j))]) (st' := [vI (if W then 1 else 0)]) rfl ?_
    refine g_if1 (i' := 24) (P := ¬ W) rfl rfl g_eqB (fun h2 => ?_) (fun h2 => ?_)
    · exact o2 h1 h2
    · have h2 := Classical.not_not.mp h2
      refine g_pure 3 (i' := 12) (lv' := [some (vR 800), some (vI (nI e)), some (vI (if W then 1 else 0)), some (vI (nI j))]) (st' := [vI (nI j), vR 814]) rfl ?_
      refine g_ald rfl (g_A (a := 814) (kd := 1) (n := 16) rfl (by decide)) (by decide) (show nI j = nI j from (rfl : nI j = nI j)) (by omega) (show _ = nI x from (hx (by omega))) ?_
      refine g_pure 3 (i' := 16) (lv' := [some (vR 800), some (vI (nI e)), some (vI (if W then 1 else 0)), some (vI (nI j))]) (st' := [vI (nI e), vR 814, vI (nI x)]) rfl ?_
      refine g_ald rfl (g_A (a := 814) (kd := 1) (n := 16) rfl (by decide)) (by decide) (show nI e = nI e from (rfl : nI e = nI e)) (by omega) (show _ = nI y from hy) ?_
      refine g_if2 (i' := 20) (P := x = y) rfl rfl (g_eqN (show nI x = nI x from (rfl : nI x = nI x)) (show nI y = nI y from (rfl : nI y = nI y)) (by omega) (by omega)) (fun h3 => ?_) (fun h3 => ?_)
      · refine g_pure 4 (i' := 4) (lv' := [some (vR 800), some (vI (nI e)), some (vI 0), some (vI (nI j + 1))]) (st' := []) rfl ?_
        refine gW_eq (lv' := [some (vR 800), some (vI (nI e)), some (vI 0), some (vI (nI (j + 1)))]) (st' := []) (by rw [(show (nI j + 1) = nI (j + 1) from ((g_add (rfl : nI j = nI j) (show (1 : Int32) = nI 1 from rfl))).trans (congrArg nI (by omega)))]) rfl rfl ?_
        exact o3 h1 h2 h3
      · refine g_pure 5 (i' := 4) (lv' := [some (vR 800), some (vI (nI e)), some (vI 1), some (vI (nI j + 1))]) (st' := []) rfl ?_
        refine gW_eq (lv' := [some (vR 800), some (vI (nI e)), some (vI 1), some (vI (nI (j + 1)))]) (st' := []) (by rw [(show (nI j + 1) = nI (j + 1) from ((g_add (rfl : nI j = nI j) (show (1 : Int32) = nI 1 from rfl))).trans (congrArg nI (by omega)))]) rfl rfl ?_
        exact o4 h1 h2 h3

theorem b_297_26 {X : Nat × (Nat → Int32)} {d : Nat} {p : Nat → Nat} {sg : Mg} {Q : am_R → Prop} {B : Nat} {S : Nat → Int32} (hI : Inv B S) (hS : sg 801 = S) {n : Nat} (u_n : n ≤ 400) (kn_800_10 : sg 800 10 = nI n) {x y z u v : Nat} {e : Nat} {W : Prop} [Decidable W] {i : Nat} (u_e : e ≤ 8) (u_i : i ≤ 400) (h3 : i < n → i + 2 < n) (hx : i < n → sg 805 i = nI x) (hy : i < n → sg 805 (i + 1) = nI y) (hz : i < n → sg 805 (i + 2) = nI z) (hu : x ≤ e → sg 814 x = nI u) (hv : y ≤ e → sg 814 y = nI v) (u_x : x ≤ 8) (u_y : y ≤ 8) (u_z : z ≤ 8) (u_u : u ≤ 8) (u_v : v ≤ 8)
    (o1 : (n ≤ i) → Q (gRv p sg (if W then 1 else 0)))
    (o2 : (¬ (n ≤ i)) → (¬ W) → Q (gRv p sg (if W then 1 else 0)))
    (o3 : (¬ (n ≤ i)) → (W) → (e < x) → gW X (d + 2) k_297 26 [some (vR 800), some (vI (nI e)), some (vI 1), some (vI (nI (i + 3)))] [] p sg Q)
    (o4 : (¬ (n ≤ i)) → (W) → (¬ (e < x)) → (e < y) → gW X (d + 2) k_297 26 [some (vR 800), some (vI (nI e)), some (vI 1), some (vI (nI (i + 3)))] [] p sg Q)
    (o5 : (¬ (n ≤ i)) → (W) → (¬ (e < x)) → (¬ (e < y)) → ¬ S 9 = 0)
    (o6 : (¬ (n ≤ i)) → (W) → (¬ (e < x)) → (¬ (e < y)) → (¬ (((nI u - nI v) + S 9) - ((nI u - nI v) + S 9) / S 9 * S 9) = nI z) → gW X (d + 2) k_297 26 [some (vR 800), some (vI (nI e)), some (vI 0), some (vI (nI (i + 3)))] [] p sg Q)
    (o7 : (¬ (n ≤ i)) → (W) → (¬ (e < x)) → (¬ (e < y)) → ((((nI u - nI v) + S 9) - ((nI u - nI v) + S 9) / S 9 * S 9) = nI z) → gW X (d + 2) k_297 26 [some (vR 800), some (vI (nI e)), some (vI 1), some (vI (nI (i + 3)))] [] p sg Q) :
    gW X (d + 2) k_297 26 [some (vR 800), some (vI (nI e)), some (vI (if W then 1 else 0)), some (vI (nI i))] [] p sg Q := by
  have b0 := hI.b0; have b1 := hI.b1; have b2 := hI.b2; have b3 := hI.b3; have b4 := hI.b4; have b5 := hI.b5; have b6 := hI.b6; have b7 := hI.b7; have b8 := hI.b8; have b9 := hI.b9; have b14 := hI.b14
  refine g_pure 2 (i' := 28) (lv' := [some (vR 800), some (vI (nI e)), some (vI (if W then 1 else 0)), some (vI (nI i))]) (st' := [vR 800, vI (nI i)]) rfl ?_
  refine g_getI rfl (g_A (a := 800) (kd := 0) (n := 12) rfl (by decide)) (show _ = nI n from kn_800_10) ?_
  refine g_if2 (i' := 82) (P := n ≤ i) rfl rfl (g_geN (show nI i = nI i from (rfl : nI i = nI i)) (show nI n = nI n from (rfl : nI n = nI n)) (by omega) (by omega)) (fun h1 => ?_) (fun h1 => ?_)
  · refine g_pure 1 (i' := 83) (lv' := [some (vR 800), some (vI (nI e)), some (vI (if W then 1 else 0)), some (vI (nI i))]) (st' := [vI (if W then 1 else 0)]) rfl ?_
    refine g_bret rfl g_narB ?_
    exact o1 h1
  · refine g_pure 1 (i' := 31) (lv' := [some (vR 800), some (vI (nI e)), some (vI (if W then 1 else 0)), some (vI (nI i))]) (st' := [vI (if W then 1 else 0)]) rfl ?_
    refine g_if1 (i' := 82) (P := ¬ W) rfl rfl g_eqB (fun h2 => ?_) (fun h2 => ?_)
    · refine g_pure 1 (i' := 83) (lv' := [some (vR 800), some (vI (nI e)), some (vI (if W then 1 else 0)), some (vI (nI i))]) (st' := [vI (if W then 1 else 0)]) rfl ?_
      refine g_bret rfl g_narB ?_
      exact o2 h1 h2
    · have h2 := Classical.not_not.mp h2
      refine g_pure 3 (i' := 35) (lv' := [some (vR 800), some (vI (nI e)), some (vI (if W then 1 else 0)), some (vI (nI i))]) (st' := [vI (nI i), vR 805]) rfl ?_
      refine g_bald rfl (by decide) (g_A (a := 805) (kd := 2) (n := 400) rfl (by decide)) (by decide) (show nI i = nI i from (rfl : nI i = nI i)) (by omega) (show _ = nI x from (hx (by omega))) ?_
      refine g_pure 1 (i' := 37) (lv' := [some (vR 800), some (vI (nI e)), some (vI (if W then 1 else 0)), some (vI (nI i))]) (st' := [vI (nI e), vI (nI x)]) rfl ?_
      refine g_if2 (i' := 76) (P := e < x) rfl rfl (g_gtN (show nI x = nI x from (rfl : nI x = nI x)) (show nI e = nI e from (rfl : nI e = nI e)) (by omega) (by omega)) (fun h3 => ?_) (fun h3 => ?_)
      · refine g_pure 5 (i' := 26) (lv' := [some (vR 800), some (vI (nI e)), some (vI 1), some (vI (nI i + 3))]) (st' := []) rfl ?_
        refine gW_eq (lv' := [some (vR 800), some (vI (nI e)), some (vI 1), some (vI (nI (i + 3)))]) (st' := []) (by rw [(show (nI i + 3) = nI (i + 3) from ((g_add (rfl : nI i = nI i) (show (3 : Int32) = nI 3 from rfl))).trans (congrArg nI (by omega)))]) rfl rfl ?_
        exact o3 h1 h2 h3
      · refine g_pure 5 (i' := 43) (lv' := [some (vR 800), some (vI (nI e)), some (vI (if W then 1 else 0)), some (vI (nI i))]) (st' := [vI (nI i + 1), vR 805]) rfl ?_
        refine gW_eq (lv' := [some (vR 800), some (vI (nI e)), some (vI (if W then 1 else 0)), some (vI (nI i))]) (st' := [vI (nI (i + 1)), vR 805]) rfl (by rw [(show (nI i + 1) = nI (i + 1) from ((g_add (rfl : nI i = nI i) (show (1 : Int32) = nI 1 from rfl))).trans (congrArg nI (by omega)))]) rfl ?_
        refine g_bald rfl (by decide) (g_A (a := 805) (kd := 2) (n := 400) rfl (by decide)) (by decide) (show nI (i + 1) = nI (i + 1) from (rfl : nI (i + 1) = nI (i + 1))) (by omega) (show _ = nI y from (hy (by omega))) ?_
        refine g_pure 1 (i' := 45) (lv' := [some (vR 800), some (vI (nI e)), some (vI (if W then 1 else 0)), some (vI (nI i))]) (st' := [vI (nI e), vI (nI y)]) rfl ?_
        refine g_if2 (i' := 76) (P := e < y) rfl rfl (g_gtN (show nI y = nI y from (rfl : nI y = nI y)) (show nI e = nI e from (rfl : nI e = nI e)) (by omega) (by omega)) (fun h4 => ?_) (fun h4 => ?_)
        · refine g_pure 5 (i' := 26) (lv' := [some (vR 800), some (vI (nI e)), some (vI 1), some (vI (nI i + 3))]) (st' := []) rfl ?_
          refine gW_eq (lv' := [some (vR 800), some (vI (nI e)), some (vI 1), some (vI (nI (i + 3)))]) (st' := []) (by rw [(show (nI i + 3) = nI (i + 3) from ((g_add (rfl : nI i = nI i) (show (3 : Int32) = nI 3 from rfl))).trans (congrArg nI (by omega)))]) rfl rfl ?_
          exact o4 h1 h2 h3 h4
        · refine g_pure 5 (i' := 51) (lv' := [some (vR 800), some (vI (nI e)), some (vI (if W then 1 else 0)), some (vI (nI i))]) (st' := [vI (nI i), vR 805, vR 814]) rfl ?_
          refine g_bald rfl (by decide) (g_A (a := 805) (kd := 2) (n := 400) rfl (by decide)) (by decide) (show nI i = nI i from (rfl : nI i = nI i)) (by omega) (show _ = nI x from (hx (by omega))) ?_
          refine g_ald rfl (g_A (a := 814) (kd := 1) (n := 16) rfl (by decide)) (by decide) (show nI x = nI x from (rfl : nI x = nI x)) (by omega) (show _ = nI u from (hu (by omega))) ?_
          refine g_pure 7 (i' := 60) (lv' := [some (vR 800), some (vI (nI e)), some (vI (if W then 1 else 0)), some (vI (nI i))]) (st' := [vI (nI i + 1), vR 805, vR 814, vI (nI u)]) rfl ?_
          refine gW_eq (lv' := [some (vR 800), some (vI (nI e)), some (vI (if W then 1 else 0)), some (vI (nI i))]) (st' := [vI (nI (i + 1)), vR 805, vR 814, vI (nI u)]) rfl (by rw [(show (nI i + 1) = nI (i + 1) from ((g_add (rfl : nI i = nI i) (show (1 : Int32) = nI 1 from rfl))).trans (congrArg nI (by omega)))]) rfl ?_
          refine g_bald rfl (by decide) (g_A (a := 805) (kd := 2) (n := 400) rfl (by decide)) (by decide) (show nI (i + 1) = nI (i + 1) from (rfl : nI (i + 1) = nI (i + 1))) (by omega) (show _ = nI y from (hy (by omega))) ?_
          refine g_ald rfl (g_A (a := 814) (kd := 1) (n := 16) rfl (by decide)) (by decide) (show nI y = nI y from (rfl : nI y = nI y)) (by omega) (show _ = nI v from (hv (by omega))) ?_
          refine g_pure 2 (i' := 64) (lv' := [some (vR 800), some (vI (nI e)), some (vI (if W then 1 else 0)), some (vI (nI i))]) (st' := [vR 800, vI (nI u - nI v)]) rfl ?_
          refine g_cV1 rfl (args := [vR 800]) (rest := [vI (nI u - nI v)]) rfl rfl rfl (s_199 (d := d + 1) hS) ?_
          refine g_pure 2 (i' := 67) (lv' := [some (vR 800), some (vI (nI e)), some (vI (if W then 1 else 0)), some (vI (nI i))]) (st' := [vR 800, vI ((nI u - nI v) + S 9)]) rfl ?_
          refine g_cV1 rfl (args := [vR 800]) (rest := [vI ((nI u - nI v) + S 9)]) rfl rfl rfl (s_199 (d := d + 1) hS) ?_
          refine g_rem rfl (o5 h1 h2 h3 h4) ?_
          refine g_pure 5 (i' := 74) (lv' := [some (vR 800), some (vI (nI e)), some (vI (if W then 1 else 0)), some (vI (nI i))]) (st' := [vI (nI i + 2), vR 805, vI (((nI u - nI v) + S 9) - ((nI u - nI v) + S 9) / S 9 * S 9)]) rfl ?_
          refine gW_eq (lv' := [some (vR 800), some (vI (nI e)), some (vI (if W then 1 else 0)), some (vI (nI i))]) (st' := [vI (nI (i + 2)), vR 805, vI (((nI u - nI v) + S 9) - ((nI u - nI v) + S 9) / S 9 * S 9)]) rfl (by rw [(show (nI i + 2) = nI (i + 2) from ((g_add (rfl : nI i = nI i) (show (2 : Int32) = nI 2 from rfl))).trans (congrArg nI (by omega)))]) rfl ?_
          refine g_bald rfl (by decide) (g_A (a := 805) (kd := 2) (n := 400) rfl (by decide)) (by decide) (show nI (i + 2) = nI (i + 2) from (rfl : nI (i + 2) = nI (i + 2))) (by omega) (show _ = nI z from (hz (by omega))) ?_
          refine g_if2 (i' := 78) (P := ¬ (((nI u - nI v) + S 9) - ((nI u - nI v) + S 9) / S 9 * S 9) = nI z) rfl rfl Iff.rfl (fun h5 => ?_) (fun h5 => ?_)
          · refine g_pure 4 (i' := 26) (lv' := [some (vR 800), some (vI (nI e)), some (vI 0), some (vI (nI i + 3))]) (st' := []) rfl ?_
            refine gW_eq (lv' := [some (vR 800), some (vI (nI e)), some (vI 0), some (vI (nI (i + 3)))]) (st' := []) (by rw [(show (nI i + 3) = nI (i + 3) from ((g_add (rfl : nI i = nI i) (show (3 : Int32) = nI 3 from rfl))).trans (congrArg nI (by omega)))]) rfl rfl ?_
            exact o6 h1 h2 h3 h4 h5
          · have h5 := Classical.not_not.mp h5
            refine g_pure 5 (i' := 26) (lv' := [some (vR 800), some (vI (nI e)), some (vI 1), some (vI (nI i + 3))]) (st' := []) rfl ?_
            refine gW_eq (lv' := [some (vR 800), some (vI (nI e)), some (vI 1), some (vI (nI (i + 3)))]) (st' := []) (by rw [(show (nI i + 3) = nI (i + 3) from ((g_add (rfl : nI i = nI i) (show (3 : Int32) = nI 3 from rfl))).trans (congrArg nI (by omega)))]) rfl rfl ?_
            exact o7 h1 h2 h3 h4 h5

theorem b_296_0 {X : Nat × (Nat → Int32)} {d : Nat} {p : Nat → Nat} {sg : Mg} {Q : am_R → Prop} {B : Nat} {S : Nat → Int32} (hI : Inv B S) (hS : sg 801 = S) {A : AS} (hRI : RI B A) (hRM : RM A sg)
    (o1 : ∀ s1 : Mg, (ueM A.tl sg s1) → (clD A = true) → (sn S 9 ≤ 9) → ∀ s5 : Mg, s5 = mu s1 814 0 0 → gW X (d + 5) k_296 24 [some (vR 800), none, none] [vR 800] p s5 Q)
    (o2 : ∀ s1 : Mg, (ueM A.tl sg s1) → (clD A = true) → (¬ (sn S 9 ≤ 9)) → Q (gRv p s1 (-3)))
    (o3 : ∀ s1 : Mg, (ueM A.tl sg s1) → (¬ (clD A = true)) → ∀ s6 : Mg, s6 = mu s1 800 0 (nI 1) → Q (gRv p s6 0)) :
    gW X (d + 5) k_296 0 [some (vR 800), none, none] [] p sg Q := by
  have b0 := hI.b0; have b1 := hI.b1; have b2 := hI.b2; have b3 := hI.b3; have b4 := hI.b4; have b5 := hI.b5; have b6 := hI.b6; have b7 := hI.b7; have b8 := hI.b8; have b9 := hI.b9; have b14 := hI.b14
  refine g_pure 2 (i' := 2) (lv' := [some (vR 800), none, none]) (st' := [vR 800, vR 800]) rfl ?_
  refine g_cV1E rfl (args := [vR 800]) (rest := [vR 800]) rfl rfl rfl (s_295 (d := d + 1) hRI hRM) (fun s1 es1 => ?_)
  have hSs1 : s1 801 = S := (es1.1 801 (by decide)).trans hS
  refine g_if1 (i' := 6) (P := clD A = true) rfl rfl g_neB (fun h2 => ?_) (fun h2 => ?_)
  · refine g_pure 2 (i' := 8) (lv' := [some (vR 800), none, none]) (st' := [vI 1, vI 0, vR 800]) rfl ?_
    refine gW_eq (st' := [vI (nI 1), vI 0, vR 800]) rfl (by rw [(show (1 : Int32) = nI 1 from rfl)]) rfl ?_
    refine g_cV1 rfl (args := [vR 800, vI 0, vI (nI 1)]) (rest := []) rfl rfl rfl (s_227f (d := d + 4) (by omega)) ?_
    refine g_if1 (i' := 12) (P := 0 = 0) rfl rfl (g_eqN (show 0 = nI 0 from (show (0 : Int32) = nI 0 from rfl)) (show 0 = nI 0 from (show (0 : Int32) = nI 0 from rfl)) (by omega) (by omega)) (fun _ => ?_) (fun h3 => absurd (by omega) h3)
    refine g_pure 1 (i' := 13) (lv' := [some (vR 800), none, none]) (st' := [vR 800]) rfl ?_
    refine g_cV1 rfl (args := [vR 800]) (rest := []) rfl rfl rfl (s_199 (d := d + 4) hSs1) ?_
    refine g_pure 1 (i' := 15) (lv' := [some (vR 800), none, none]) (st' := [vI 9, vI (S 9)]) rfl ?_
    refine g_if2 (i' := 18) (P := sn S 9 ≤ 9) rfl rfl (g_leN (show S 9 = nI (sn S 9) from (hI.c9)) (show 9 = nI 9 from (show (9 : Int32) = nI 9 from rfl)) (by omega) (by omega)) (fun h4 => ?_) (fun h4 => ?_)
    · refine g_pure 4 (i' := 22) (lv' := [some (vR 800), none, none]) (st' := [vI 0, vI 0, vR 814]) rfl ?_
      refine g_ast rfl (g_A (a := 814) (kd := 1) (n := 16) rfl (by decide)) (by decide) (show 0 = nI 0 from (show (0 : Int32) = nI 0 from rfl)) (by decide) ?_
      refine g_setv (fun s5 es5 => ?_)
      have hSs5 : s5 801 = S := by rw [es5, mu_ne (by decide), hSs1]
      refine g_pure 1 (i' := 24) (lv' := [some (vR 800), none, none]) (st' := [vR 800]) rfl ?_
      exact o1 s1 es1 h2 h4 s5 es5
    · refine g_pure 1 (i' := 17) (lv' := [some (vR 800), none, none]) (st' := [vI (-3)]) rfl ?_
      refine g_iret rfl ?_
      exact o2 s1 es1 h2 h4
  · refine g_pure 3 (i' := 8) (lv' := [some (vR 800), none, none]) (st' := [vI 1, vI 1, vR 800]) rfl ?_
    refine gW_eq (st' := [vI (nI 1), vI 1, vR 800]) rfl (by rw [(show (1 : Int32) = nI 1 from rfl)]) rfl ?_
    refine g_cV1 rfl (args := [vR 800, vI 1, vI (nI 1)]) (rest := []) rfl rfl rfl (s_227t (d := d + 4) (by omega)) ?_
    refine g_setv (fun s6 es6 => ?_)
    have hSs6 : s6 801 = S := by rw [es6, mu_ne (by decide), hSs1]
    refine g_if1 (i' := 12) (P := 1 = 0) rfl rfl (g_eqN (show 1 = nI 1 from (show (1 : Int32) = nI 1 from rfl)) (show 0 = nI 0 from (show (0 : Int32) = nI 0 from rfl)) (by omega) (by omega)) (fun h7 => absurd h7 (by omega)) (fun _ => ?_)
    refine g_pure 1 (i' := 11) (lv' := [some (vR 800), none, none]) (st' := [vI 0]) rfl ?_
    refine g_iret rfl ?_
    exact o3 s1 es1 h2 s6 es6

theorem b_296_38 {X : Nat × (Nat → Int32)} {d : Nat} {p : Nat → Nat} {sg : Mg} {Q : am_R → Prop} {B : Nat} {S : Nat → Int32} (hI : Inv B S) (hS : sg 801 = S) {v : Nat} {n : Nat} {j : Nat} (u_j : j ≤ 8) (hv : sg 814 j = nI v) (u_v : v < sn S 9)
    (o1 : (j ≤ 0) → Q (gRv p sg (nI n)))
    (o2 : (¬ (j ≤ 0)) → ∀ s2 : Mg, s2 = mu sg 814 j (nI (v + 1)) → (¬ s2 814 j = S 9) → gW X (d + 5) k_296 57 [some (vR 800), some (vI (nI n)), some (vI (nI j))] [] p s2 Q)
    (o3 : (¬ (j ≤ 0)) → ∀ s2 : Mg, s2 = mu sg 814 j (nI (v + 1)) → (s2 814 j = S 9) → gW X (d + 5) k_296 38 [some (vR 800), some (vI (nI n)), some (vI (nI j + -1))] [] p s2 Q) :
    gW X (d + 5) k_296 38 [some (vR 800), some (vI (nI n)), some (vI (nI j))] [] p sg Q := by
  have b0 := hI.b0; have b1 := hI.b1; have b2 := hI.b2; have b3 := hI.b3; have b4 := hI.b4; have b5 := hI.b5; have b6 := hI.b6; have b7 := hI.b7; have b8 := hI.b8; have b9 := hI.b9; have b14 := hI.b14
  refine g_pure 1 (i' := 39) (lv' := [some (vR 800), some (vI (nI n)), some (vI (nI j))]) (st' := [vI (nI j)]) rfl ?_
  refine g_if1 (i' := 76) (P := j ≤ 0) rfl rfl (g_leN (show nI j = nI j from (rfl : nI j = nI j)) (show 0 = nI 0 from (show (0 : Int32) = nI 0 from rfl)) (by omega) (by omega)) (fun h1 => ?_) (fun h1 => ?_)
  · refine g_pure 1 (i' := 77) (lv' := [some (vR 800), some (vI (nI n)), some (vI (nI j))]) (st' := [vI (nI n)]) rfl ?_
    refine g_iret rfl ?_
    exact o1 h1
  · refine g_pure 4 (i' := 44) (lv' := [some (vR 800), some (vI (nI n)), some (vI (nI j))]) (st' := [vI (nI j), vR 814, vI (nI j), vR 814]) rfl ?_
    refine g_ald rfl (g_A (a := 814) (kd := 1) (n := 16) rfl (by decide)) (by decide) (show nI j = nI j from (rfl : nI j = nI j)) (by omega) (show _ = nI v from hv) ?_
    refine g_pure 2 (i' := 47) (lv' := [some (vR 800), some (vI (nI n)), some (vI (nI j))]) (st' := [vI (nI v + 1), vI (nI j), vR 814]) rfl ?_
    refine gW_eq (lv' := [some (vR 800), some (vI (nI n)), some (vI (nI j))]) (st' := [vI (nI (v + 1)), vI (nI j), vR 814]) rfl (by rw [(show (nI v + 1) = nI (v + 1) from ((g_add (rfl : nI v = nI v) (show (1 : Int32) = nI 1 from rfl))).trans (congrArg nI (by omega)))]) rfl ?_
    refine g_ast rfl (g_A (a := 814) (kd := 1) (n := 16) rfl (by decide)) (by decide) (show nI j = nI j from (rfl : nI j = nI j)) (by omega) ?_
    refine g_setv (fun s2 es2 => ?_)
    have hSs2 : s2 801 = S := by rw [es2, mu_ne (by decide), hS]
    refine g_pure 3 (i' := 51) (lv' := [some (vR 800), some (vI (nI n)), some (vI (nI j))]) (st' := [vI (nI j), vR 814]) rfl ?_
    refine g_ald rfl (g_A (a := 814) (kd := 1) (n := 16) rfl (by decide)) (by decide) (show nI j = nI j from (rfl : nI j = nI j)) (by omega) (show _ = s2 814 j from rfl) ?_
    refine g_pure 1 (i' := 53) (lv' := [some (vR 800), some (vI (nI n)), some (vI (nI j))]) (st' := [vR 800, vI (s2 814 j)]) rfl ?_
    refine g_cV1 rfl (args := [vR 800]) (rest := [vI (s2 814 j)]) rfl rfl rfl (s_199 (d := d + 4) hSs2) ?_
    refine g_if2 (i' := 57) (P := ¬ s2 814 j = S 9) rfl rfl Iff.rfl (fun h3 => ?_) (fun h3 => ?_)
    · exact o2 h1 s2 es2 h3
    · have h3 := Classical.not_not.mp h3
      refine g_pure 2 (i' := 38) (lv' := [some (vR 800), some (vI (nI n)), some (vI (nI j + -1))]) (st' := []) rfl ?_
      exact o3 h1 s2 es2 h3

theorem b_296_61 {X : Nat × (Nat → Int32)} {d : Nat} {p : Nat → Nat} {sg : Mg} {Q : am_R → Prop} {B : Nat} {S : Nat → Int32} (hI : Inv B S) (hS : sg 801 = S) {n : Nat} {j : Nat} (u_j : j ≤ 8)
    (o1 : (¬ j = (sn S 9 - 1)) → ∀ s2 : Mg, s2 = mu sg 814 (j + 1) 0 → gW X (d + 5) k_296 38 [some (vR 800), some (vI (nI n)), some (vI (nI (j + 1)))] [] p s2 Q)
    (o2 : (j = (sn S 9 - 1)) → gW X (d + 5) k_296 38 [some (vR 800), some (vI (nI (n + 1))), some (vI (nI j))] [] p sg Q) :
    gW X (d + 5) k_296 61 [some (vR 800), some (vI (nI n)), some (vI (nI j))] [] p sg Q := by
  have b0 := hI.b0; have b1 := hI.b1; have b2 := hI.b2; have b3 := hI.b3; have b4 := hI.b4; have b5 := hI.b5; have b6 := hI.b6; have b7 := hI.b7; have b8 := hI.b8; have b9 := hI.b9; have b14 := hI.b14
  refine g_pure 2 (i' := 63) (lv' := [some (vR 800), some (vI (nI n)), some (vI (nI j))]) (st' := [vR 800, vI (nI j)]) rfl ?_
  refine g_cV1 rfl (args := [vR 800]) (rest := [vI (nI j)]) rfl rfl rfl (s_199 (d := d + 4) hS) ?_
  refine g_pure 2 (i' := 66) (lv' := [some (vR 800), some (vI (nI n)), some (vI (nI j))]) (st' := [vI (S 9 - 1), vI (nI j)]) rfl ?_
  refine gW_eq (lv' := [some (vR 800), some (vI (nI n)), some (vI (nI j))]) (st' := [vI (nI (sn S 9 - 1)), vI (nI j)]) rfl (by rw [(show (S 9 - 1) = nI (sn S 9 - 1) from (g_sub (hI.c9) (show (1 : Int32) = nI 1 from rfl) (by omega)))]) rfl ?_
  refine g_if2 (i' := 69) (P := ¬ j = (sn S 9 - 1)) rfl rfl (g_neN (show nI j = nI j from (rfl : nI j = nI j)) (show nI (sn S 9 - 1) = nI (sn S 9 - 1) from (rfl : nI (sn S 9 - 1) = nI (sn S 9 - 1))) (by omega) (by omega)) (fun h1 => ?_) (fun h1 => ?_)
  · refine g_pure 5 (i' := 74) (lv' := [some (vR 800), some (vI (nI n)), some (vI (nI j + 1))]) (st' := [vI 0, vI (nI j + 1), vR 814]) rfl ?_
    refine gW_eq (lv' := [some (vR 800), some (vI (nI n)), some (vI (nI (j + 1)))]) (st' := [vI 0, vI (nI (j + 1)), vR 814]) (by rw [(show (nI j + 1) = nI (j + 1) from ((g_add (rfl : nI j = nI j) (show (1 : Int32) = nI 1 from rfl))).trans (congrArg nI (by omega)))]) (by rw [(show (nI j + 1) = nI (j + 1) from ((g_add (rfl : nI j = nI j) (show (1 : Int32) = nI 1 from rfl))).trans (congrArg nI (by omega)))]) rfl ?_
    refine g_ast rfl (g_A (a := 814) (kd := 1) (n := 16) rfl (by decide)) (by decide) (show nI (j + 1) = nI (j + 1) from (rfl : nI (j + 1) = nI (j + 1))) (by omega) ?_
    refine g_setv (fun s2 es2 => ?_)
    have hSs2 : s2 801 = S := by rw [es2, mu_ne (by decide), hS]
    refine g_pure 1 (i' := 38) (lv' := [some (vR 800), some (vI (nI n)), some (vI (nI (j + 1)))]) (st' := []) rfl ?_
    exact o1 h1 s2 es2
  · have h1 := Classical.not_not.mp h1
    refine g_pure 2 (i' := 38) (lv' := [some (vR 800), some (vI (nI n + 1)), some (vI (nI j))]) (st' := []) rfl ?_
    refine gW_eq (lv' := [some (vR 800), some (vI (nI (n + 1))), some (vI (nI j))]) (st' := []) (by rw [(show (nI n + 1) = nI (n + 1) from ((g_add (rfl : nI n = nI n) (show (1 : Int32) = nI 1 from rfl))).trans (congrArg nI (by omega)))]) rfl rfl ?_
    exact o2 h1

theorem s_297 {X : Nat × (Nat → Int32)} {d : Nat} {p : Nat → Nat} {sg : Mg} {B : Nat} {S T : Nat → Int32} {tl e : Nat} {w : Nat → Nat} (hI : Inv B S) (hS : sg 801 = S) (ht : tl ≤ 400) (hn : sg 800 10 = nI tl) (h3 : tl % 3 = 0) (hT : ∀ i, i < tl → sg 805 i = T i ∧ okx (T i) (sn S 9)) (h9 : sn S 9 ≤ 9) (he : e < sn S 9) (hw : ∀ i, i ≤ e → sg 814 i = nI (w i) ∧ w i < sn S 9) : gF X (d + 3) 297 [vR 800, vI (nI e)] p sg (fun r => ∃ b : Bool, (b = true ↔ fitO T (sn S 9) (tl / 3) e w) ∧ r = gRv p sg (if b = true then 1 else 0)) := by
  refine g_in (cd := k_297) (nL := 4) (rc := 13) rfl (g_A (a := 800) (kd := 0) (n := 12) rfl (by decide)) (g_c1 rfl) ?_
  show gW X (d + 2) k_297 0 [some (vR 800), some (vI (nI e)), none, none] [] p sg _
  refine g_pure 4 (i' := 4) (lv' := [some (vR 800), some (vI (nI e)), some (vI 1), some (vI 0)]) (st' := []) rfl ?_
  have lp2 : ∀ (W : Bool) (j : Nat), (W = true ↔ ∀ a, a < e → w a ≠ w e) → gW X (d + 2) k_297 24 [some (vR 800), some (vI (nI e)), some (vI (if W = true then 1 else 0)), some (vI (nI j))] [] p sg (fun r => ∃ b : Bool, (b = true ↔ fitO T (sn S 9) (tl / 3) e w) ∧ r = gRv p sg (if b = true then 1 else 0)) := fun W j hW => by
    refine g_pure 2 (i' := 26) (lv' := [some (vR 800), some (vI (nI e)), some (vI (if W = true then 1 else 0)), some (vI 0)]) (st' := []) rfl ?_
    have key := g_upI (P := fun k => ∀ W : Bool, (W = true ↔ (∀ a, a < e → w a ≠ w e) ∧ ∀ j, j < k → (T (3 * j)).toNatClampNeg ≤ e → (T (3 * j + 1)).toNatClampNeg ≤ e → (w (T (3 * j)).toNatClampNeg + sn S 9 - w (T (3 * j + 1)).toNatClampNeg) % sn S 9 = (T (3 * j + 2)).toNatClampNeg) → gW X (d + 2) k_297 26 [some (vR 800), some (vI (nI e)), some (vI (if W = true then 1 else 0)), some (vI (nI (3 * k)))] [] p sg (fun r => ∃ b : Bool, (b = true ↔ fitO T (sn S 9) (tl / 3) e w) ∧ r = gRv p sg (if b = true then 1 else 0))) (I := fun _ => True) (n := tl / 3) (a := 0) (by omega) trivial ?_ ?_
    · exact key W ⟨fun h => ⟨hW.mp h, fun j hj => absurd hj (Nat.not_lt_zero _)⟩, fun h => hW.mpr h.1⟩
    · intro k _ hk _ ih W hW
      have ih := ih trivial
      have t0 := hT (3 * k) (by omega)
      have t1 := hT (3 * k + 1) (by omega)
      have t2 := hT (3 * k + 2) (by omega)
      have o0 := okx_at (by omega) t0.2
      have o1 := okx_at (by omega) t1.2
      have o2 := okx_at (by omega) t2.2
      by_cases hWt : W = true
      · have hW1 := hW.mp hWt
        have wx : w (min (T (3 * k)).toNatClampNeg e) < sn S 9 := (hw _ (by omega)).2
        have wy : w (min (T (3 * k + 1)).toNatClampNeg e) < sn S 9 := (hw _ (by omega)).2
        have go : ∀ V : Bool, (V = true ↔ ((T (3 * k)).toNatClampNeg ≤ e → (T (3 * k + 1)).toNatClampNeg ≤ e → (w (T (3 * k)).toNatClampNeg + sn S 9 - w (T (3 * k + 1)).toNatClampNeg) % sn S 9 = (T (3 * k + 2)).toNatClampNeg)) → gW X (d + 2) k_297 26 [some (vR 800), some (vI (nI e)), some (vI (if V = true then 1 else 0)), some (vI (nI (3 * k + 3)))] [] p sg (fun r => ∃ b : Bool, (b = true ↔ fitO T (sn S 9) (tl / 3) e w) ∧ r = gRv p sg (if b = true then 1 else 0)) := fun V hV => by
          rw [show 3 * k + 3 = 3 * (k + 1) by omega]
          refine ih V ⟨fun h => ⟨hW1.1, fun j hj => ?_⟩, fun h => hV.mpr (h.2 k (by omega))⟩
          by_cases c : j = k
          · subst c; exact hV.mp h
          · exact hW1.2 j (by omega)
        refine b_297_26 (u := w (min (T (3 * k)).toNatClampNeg e)) (v := w (min (T (3 * k + 1)).toNatClampNeg e)) hI hS ht hn (W := W = true) (by omega) (by omega) (by omega) (fun _ => t0.1.trans o0.1) (fun _ => t1.1.trans o1.1) (fun _ => t2.1.trans o2.1) (fun h => by rw [Nat.min_eq_left h]; exact (hw _ h).1) (fun h => by rw [Nat.min_eq_left h]; exact (hw _ h).1) (by omega) (by omega) (by omega) (by omega) (by omega) (fun h => by omega) (fun _ h => absurd hWt h) (fun _ _ h => go true ⟨fun _ h1 => by omega, fun _ => rfl⟩) (fun _ _ _ h => go true ⟨fun _ _ h1 => by omega, fun _ => rfl⟩) (fun _ _ _ _ h => ?_) (fun _ _ h1 h2 h => go false ⟨fun h9 => (by cases h9), fun g => absurd ?_ h⟩) (fun _ _ h1 h2 h => go true ⟨fun _ _ _ => ?_, fun _ => rfl⟩)
        · rw [hI.c9, show (0 : Int32) = nI 0 from rfl, nI_eq (by omega) (by omega)] at h
          omega
        · have g := g (by omega) (by omega)
          rw [Nat.min_eq_left (by omega), Nat.min_eq_left (by omega), hI.c9, rem_ok (sn S 9) (by omega) _ (hw _ (by omega)).2 _ (hw _ (by omega)).2, g]
        · have hm := Nat.mod_lt (w (T (3 * k)).toNatClampNeg + sn S 9 - w (T (3 * k + 1)).toNatClampNeg) (show 0 < sn S 9 by omega)
          rw [Nat.min_eq_left (by omega), Nat.min_eq_left (by omega), hI.c9, rem_ok (sn S 9) (by omega) _ (hw _ (by omega)).2 _ (hw _ (by omega)).2, nI_eq (by omega) (by omega)] at h
          exact h
      · have wx : w (min (T (3 * k)).toNatClampNeg e) < sn S 9 := (hw _ (by omega)).2
        have wy : w (min (T (3 * k + 1)).toNatClampNeg e) < sn S 9 := (hw _ (by omega)).2
        exact b_297_26 (u := w (min (T (3 * k)).toNatClampNeg e)) (v := w (min (T (3 * k + 1)).toNatClampNeg e)) hI hS ht hn (W := W = true) (by omega) (by omega) (by omega) (fun _ => t0.1.trans o0.1) (fun _ => t1.1.trans o1.1) (fun _ => t2.1.trans o2.1) (fun h => by rw [Nat.min_eq_left h]; exact (hw _ h).1) (fun h => by rw [Nat.min_eq_left h]; exact (hw _ h).1) (by omega) (by omega) (by omega) (by omega) (by omega) (fun h => by omega) (fun _ _ => ⟨W, ⟨fun h => absurd h hWt, fun h => hW.mpr ⟨h.1, fun j hj => h.2 j (by omega)⟩⟩, rfl⟩) (fun _ h => absurd h hWt) (fun _ h => absurd h hWt) (fun _ h => absurd h hWt) (fun _ h => absurd h hWt) (fun _ h => absurd h hWt)
    · intro _ W hW
      refine b_297_26 (x := 0) (y := 0) (z := 0) (u := w 0) (v := w 0) hI hS ht hn (W := W = true) (by omega) (by omega) (by omega) (fun h => by omega) (fun h => by omega) (fun h => by omega) (fun _ => (hw 0 (by omega)).1) (fun _ => (hw 0 (by omega)).1) (by omega) (by omega) (by omega) (by have := (hw 0 (by omega)).2; omega) (by have := (hw 0 (by omega)).2; omega) (fun _ => ⟨W, hW, rfl⟩) (fun h => by omega) (fun h => by omega) (fun h => by omega) (fun h => by omega) (fun h => by omega) (fun h => by omega)
  have key := g_upI (P := fun j => ∀ W : Bool, (W = true ↔ ∀ a, a < j → w a ≠ w e) → gW X (d + 2) k_297 4 [some (vR 800), some (vI (nI e)), some (vI (if W = true then 1 else 0)), some (vI (nI j))] [] p sg (fun r => ∃ b : Bool, (b = true ↔ fitO T (sn S 9) (tl / 3) e w) ∧ r = gRv p sg (if b = true then 1 else 0))) (I := fun _ => True) (n := e) (a := 0) (by omega) trivial ?_ ?_
  · exact key true ⟨fun _ a ha => absurd ha (Nat.not_lt_zero _), fun _ => rfl⟩
  · intro j _ hj _ ih W hW
    have ih := ih trivial
    have wj := hw j (by omega)
    have we := hw e (by omega)
    refine b_297_4 (x := w j) (y := w e) (W := W = true) (by omega) (by omega) (fun _ => wj.1) we.1 (by omega) (by omega) (fun h => by omega) (fun _ h => lp2 W j ⟨fun h9 => absurd h9 h, fun g => absurd (hW.mpr (fun a ha => g a (by omega))) h⟩) (fun _ h1 h2 => ih false ⟨fun h => (by cases h), fun g => absurd h2 (g j (by omega))⟩) (fun _ h1 h2 => ih true ⟨fun _ a ha => ?_, fun _ => rfl⟩)
    by_cases c : a = j
    · subst c; exact h2
    · exact hW.mp h1 a (by omega)
  · intro _ W hW
    have we := hw e (by omega)
    exact b_297_4 (x := 0) (y := w e) (W := W = true) (by omega) (by omega) (fun h => absurd h (Nat.lt_irrefl _)) we.1 (by omega) (by omega) (fun _ => lp2 W e hW) (fun h => by omega) (fun h => by omega) (fun h => by omega)
