/-! PLAN: the steps of the reference (made by wip/whole/gen89i.py) -/
theorem s_306 {X : Nat × (Nat → Int32)} {d : Nat} {p : Nat → Nat} {sg : Mg} {t : Nat} {v : Nat} {s : Nat} (u_t : t ≤ 405) (u_v : v ≤ 5) (u_s : s ≤ 31) : gF X (d + 1) 306 [vI (nI t), vI (nI v), vI (nI s)] p sg (fun r => r = gRv p sg (nI (192 * t + 32 * v + s))) := by
  refine g_in (cd := k_306) (nL := 3) (rc := 0) rfl trivial (g_c1 rfl) ?_
  show gW X (d) k_306 0 [some (vI (nI t)), some (vI (nI v)), some (vI (nI s))] [] p sg _
  refine g_pure 9 (i' := 9) (lv' := [some (vI (nI t)), some (vI (nI v)), some (vI (nI s))]) (st' := [vI ((((6 * nI t) + nI v) * 32) + nI s)]) rfl ?_
  refine gW_eq (lv' := [some (vI (nI t)), some (vI (nI v)), some (vI (nI s))]) (st' := [vI (nI (192 * t + 32 * v + s))]) rfl (by rw [(show ((((6 * nI t) + nI v) * 32) + nI s) = nI (192 * t + 32 * v + s) from ((g_add (g_mul (g_add (g_mul (show (6 : Int32) = nI 6 from rfl) (rfl : nI t = nI t)) (rfl : nI v = nI v)) (show (32 : Int32) = nI 32 from rfl)) (rfl : nI s = nI s))).trans (congrArg nI (by omega)))]) rfl ?_
  refine g_iret rfl ?_
  exact rfl

theorem b_308_n {X : Nat × (Nat → Int32)} {d : Nat} {p : Nat → Nat} {sg : Mg} {Q : am_R → Prop} {B : Nat} {S : Nat → Int32} (hI : Inv B S) (hS : sg 801 = S)
    (o1 : Q (gRv p sg 0)) :
    gW X (d + 2) k_308 0 [some (vR 800), some (vI (-1)), none] [] p sg Q := by
  have b0 := hI.b0; have b1 := hI.b1; have b2 := hI.b2; have b3 := hI.b3; have b4 := hI.b4; have b5 := hI.b5; have b6 := hI.b6; have b7 := hI.b7; have b8 := hI.b8; have b9 := hI.b9; have b14 := hI.b14
  refine g_pure 1 (i' := 1) (lv' := [some (vR 800), some (vI (-1)), none]) (st' := [vI (-1)]) rfl ?_
  refine g_if1 (i' := 6) (P := ((-1) : Int32) < 0) rfl rfl Iff.rfl (fun _ => ?_) (fun h1 => absurd (by decide) h1)
  refine g_pure 1 (i' := 7) (lv' := [some (vR 800), some (vI (-1)), none]) (st' := [vI 0]) rfl ?_
  refine g_iret rfl ?_
  exact o1

theorem b_308_0 {X : Nat × (Nat → Int32)} {d : Nat} {p : Nat → Nat} {sg : Mg} {Q : am_R → Prop} {B : Nat} {S : Nat → Int32} (hI : Inv B S) (hS : sg 801 = S) {a : Nat} (u_a : a ≤ 7) (q1 : a < sn S 5)
    (o1 : (¬ (dnP S a = true)) → gW X (d + 2) k_308 10 [some (vR 800), some (vI (nI a)), some (vI 0)] [] p sg Q)
    (o2 : ((dnP S a = true)) → Q (gRv p sg 0)) :
    gW X (d + 2) k_308 0 [some (vR 800), some (vI (nI a)), none] [] p sg Q := by
  have b0 := hI.b0; have b1 := hI.b1; have b2 := hI.b2; have b3 := hI.b3; have b4 := hI.b4; have b5 := hI.b5; have b6 := hI.b6; have b7 := hI.b7; have b8 := hI.b8; have b9 := hI.b9; have b14 := hI.b14
  refine g_pure 1 (i' := 1) (lv' := [some (vR 800), some (vI (nI a)), none]) (st' := [vI (nI a)]) rfl ?_
  refine g_if1 (i' := 6) (P := a < 0) rfl rfl (g_ltN (show nI a = nI a from (rfl : nI a = nI a)) (show 0 = nI 0 from (show (0 : Int32) = nI 0 from rfl)) (by omega) (by omega)) (fun h1 => absurd h1 (by omega)) (fun _ => ?_)
  refine g_pure 2 (i' := 4) (lv' := [some (vR 800), some (vI (nI a)), none]) (st' := [vI (nI a), vR 800]) rfl ?_
  refine g_cV1 rfl (args := [vR 800, vI (nI a)]) (rest := []) rfl rfl rfl (s_258 (d := d) hI hS (by omega)) ?_
  refine g_if1 (i' := 8) (P := ¬ (dnP S a = true)) rfl rfl g_eqB (fun h2 => ?_) (fun h2 => ?_)
  · refine g_pure 2 (i' := 10) (lv' := [some (vR 800), some (vI (nI a)), some (vI 0)]) (st' := []) rfl ?_
    exact o1 h2
  · have h2 := Classical.not_not.mp h2
    refine g_pure 1 (i' := 7) (lv' := [some (vR 800), some (vI (nI a)), none]) (st' := [vI 0]) rfl ?_
    refine g_iret rfl ?_
    exact o2 h2

theorem b_308_10 {X : Nat × (Nat → Int32)} {d : Nat} {p : Nat → Nat} {sg : Mg} {Q : am_R → Prop} {B : Nat} {S : Nat → Int32} (hI : Inv B S) (hS : sg 801 = S) {np : Nat} (u_np : np ≤ 5) (kn_800_28 : sg 800 28 = nI np) {x : Nat} {a : Nat} {j : Nat} (u_a : a ≤ 7) (u_j : j ≤ 5) (hx : j < np → sg 817 j = nI x) (u_x : x ≤ 7)
    (o1 : (np ≤ j) → Q (gRv p sg (-1)))
    (o2 : (¬ (np ≤ j)) → (¬ x = a) → gW X (d + 2) k_308 10 [some (vR 800), some (vI (nI a)), some (vI (nI (j + 1)))] [] p sg Q)
    (o3 : (¬ (np ≤ j)) → (x = a) → Q (gRv p sg (1 <<< (nI j &&& 31)))) :
    gW X (d + 2) k_308 10 [some (vR 800), some (vI (nI a)), some (vI (nI j))] [] p sg Q := by
  have b0 := hI.b0; have b1 := hI.b1; have b2 := hI.b2; have b3 := hI.b3; have b4 := hI.b4; have b5 := hI.b5; have b6 := hI.b6; have b7 := hI.b7; have b8 := hI.b8; have b9 := hI.b9; have b14 := hI.b14
  refine g_pure 2 (i' := 12) (lv' := [some (vR 800), some (vI (nI a)), some (vI (nI j))]) (st' := [vR 800, vI (nI j)]) rfl ?_
  refine g_getI rfl (g_A (a := 800) (kd := 0) (n := 12) rfl (by decide)) (show _ = nI np from kn_800_28) ?_
  refine g_if2 (i' := 26) (P := np ≤ j) rfl rfl (g_geN (show nI j = nI j from (rfl : nI j = nI j)) (show nI np = nI np from (rfl : nI np = nI np)) (by omega) (by omega)) (fun h1 => ?_) (fun h1 => ?_)
  · refine g_pure 1 (i' := 27) (lv' := [some (vR 800), some (vI (nI a)), some (vI (nI j))]) (st' := [vI (-1)]) rfl ?_
    refine g_iret rfl ?_
    exact o1 h1
  · refine g_pure 3 (i' := 17) (lv' := [some (vR 800), some (vI (nI a)), some (vI (nI j))]) (st' := [vI (nI j), vR 817]) rfl ?_
    refine g_ald rfl (g_A (a := 817) (kd := 1) (n := 5) rfl (by decide)) (by decide) (show nI j = nI j from (rfl : nI j = nI j)) (by omega) (show _ = nI x from (hx (by omega))) ?_
    refine g_pure 1 (i' := 19) (lv' := [some (vR 800), some (vI (nI a)), some (vI (nI j))]) (st' := [vI (nI a), vI (nI x)]) rfl ?_
    refine g_if2 (i' := 24) (P := ¬ x = a) rfl rfl (g_neN (show nI x = nI x from (rfl : nI x = nI x)) (show nI a = nI a from (rfl : nI a = nI a)) (by omega) (by omega)) (fun h2 => ?_) (fun h2 => ?_)
    · refine g_pure 2 (i' := 10) (lv' := [some (vR 800), some (vI (nI a)), some (vI (nI j + 1))]) (st' := []) rfl ?_
      refine gW_eq (lv' := [some (vR 800), some (vI (nI a)), some (vI (nI (j + 1)))]) (st' := []) (by rw [(show (nI j + 1) = nI (j + 1) from ((g_add (rfl : nI j = nI j) (show (1 : Int32) = nI 1 from rfl))).trans (congrArg nI (by omega)))]) rfl rfl ?_
      exact o2 h1 h2
    · have h2 := Classical.not_not.mp h2
      refine g_pure 3 (i' := 23) (lv' := [some (vR 800), some (vI (nI a)), some (vI (nI j))]) (st' := [vI (1 <<< (nI j &&& 31))]) rfl ?_
      refine g_iret rfl ?_
      exact o3 h1 h2

theorem b_307_0 {X : Nat × (Nat → Int32)} {d : Nat} {p : Nat → Nat} {sg : Mg} {Q : am_R → Prop} {B : Nat} {S : Nat → Int32} (hI : Inv B S) (hS : sg 801 = S) {x : Nat} {i : Nat} {v : Nat} {t : Nat} {s : Nat} (u_i : i ≤ 4) (u_v : v ≤ 5) (u_t : t ≤ 200400) (u_s : s ≤ 31) (hx : sg 817 i = nI x) (u_x : x ≤ 7)
    (o1 : gW X (d + 4) k_307 10 [some (vR 800), some (vI (nI i)), some (vI (nI v)), some (vI (nI t)), some (vI (nI s)), some (vI (nI x)), none] [vI (S (269 + 5 * x + 2)), vR 800] p sg Q) :
    gW X (d + 4) k_307 0 [some (vR 800), some (vI (nI i)), some (vI (nI v)), some (vI (nI t)), some (vI (nI s)), none, none] [] p sg Q := by
  have b0 := hI.b0; have b1 := hI.b1; have b2 := hI.b2; have b3 := hI.b3; have b4 := hI.b4; have b5 := hI.b5; have b6 := hI.b6; have b7 := hI.b7; have b8 := hI.b8; have b9 := hI.b9; have b14 := hI.b14
  refine g_pure 3 (i' := 3) (lv' := [some (vR 800), some (vI (nI i)), some (vI (nI v)), some (vI (nI t)), some (vI (nI s)), none, none]) (st' := [vI (nI i), vR 817]) rfl ?_
  refine g_ald rfl (g_A (a := 817) (kd := 1) (n := 5) rfl (by decide)) (by decide) (show nI i = nI i from (rfl : nI i = nI i)) (by omega) (show _ = nI x from hx) ?_
  refine g_pure 5 (i' := 9) (lv' := [some (vR 800), some (vI (nI i)), some (vI (nI v)), some (vI (nI t)), some (vI (nI s)), some (vI (nI x)), none]) (st' := [vI 2, vI (nI x), vR 800, vR 800]) rfl ?_
  refine gW_eq (st' := [vI (nI 2), vI (nI x), vR 800, vR 800]) rfl (by rw [(show (2 : Int32) = nI 2 from rfl)]) rfl ?_
  refine g_cV1 rfl (args := [vR 800, vI (nI x), vI (nI 2)]) (rest := [vR 800]) rfl rfl rfl (s_245 (d := d + 3) hS (by omega) (by omega)) ?_
  exact o1

theorem b_307_12 {X : Nat × (Nat → Int32)} {d : Nat} {p : Nat → Nat} {sg : Mg} {Q : am_R → Prop} {B : Nat} {S : Nat → Int32} (hI : Inv B S) (hS : sg 801 = S) {i : Nat} {v : Nat} {t : Nat} {s : Nat} {x : Nat} {y : Int32} (u_i : i ≤ 4) (u_v : v ≤ 5) (u_t : t ≤ 200400) (u_s : s ≤ 31) (u_x : x ≤ 7) (q1 : x < sn S 5)
    (o1 : ((((nI s) >>> ((nI i) &&& 31)) &&& 1) = 1) → Q (gRv p sg 0))
    (o2 : (¬ ((((nI s) >>> ((nI i) &&& 31)) &&& 1) = 1)) → (¬ sn S (269 + 5 * x) = v) → Q (gRv p sg 0))
    (o3 : (¬ ((((nI s) >>> ((nI i) &&& 31)) &&& 1) = 1)) → (sn S (269 + 5 * x) = v) → (¬ sn S (17 + 16 * v + (t % (sn S 9))) = sn S (269 + 5 * x + 1)) → Q (gRv p sg 0))
    (o4 : (¬ ((((nI s) >>> ((nI i) &&& 31)) &&& 1) = 1)) → (sn S (269 + 5 * x) = v) → (sn S (17 + 16 * v + (t % (sn S 9))) = sn S (269 + 5 * x + 1)) → (y < 0) → Q (gRv p sg 0))
    (o5 : (¬ ((((nI s) >>> ((nI i) &&& 31)) &&& 1) = 1)) → (sn S (269 + 5 * x) = v) → (sn S (17 + 16 * v + (t % (sn S 9))) = sn S (269 + 5 * x + 1)) → (¬ (y < 0)) → (¬ (y &&& (nI s ^^^ (-1))) = 0) → Q (gRv p sg 0))
    (o6 : (¬ ((((nI s) >>> ((nI i) &&& 31)) &&& 1) = 1)) → (sn S (269 + 5 * x) = v) → (sn S (17 + 16 * v + (t % (sn S 9))) = sn S (269 + 5 * x + 1)) → (¬ (y < 0)) → ((y &&& (nI s ^^^ (-1))) = 0) → Q (gRv p sg 1)) :
    gW X (d + 4) k_307 12 [some (vR 800), some (vI (nI i)), some (vI (nI v)), some (vI (nI t)), some (vI (nI s)), some (vI (nI x)), some (vI y)] [] p sg Q := by
  have b0 := hI.b0; have b1 := hI.b1; have b2 := hI.b2; have b3 := hI.b3; have b4 := hI.b4; have b5 := hI.b5; have b6 := hI.b6; have b7 := hI.b7; have b8 := hI.b8; have b9 := hI.b9; have b14 := hI.b14
  refine g_pure 2 (i' := 14) (lv' := [some (vR 800), some (vI (nI i)), some (vI (nI v)), some (vI (nI t)), some (vI (nI s)), some (vI (nI x)), some (vI y)]) (st' := [vI (nI i), vI (nI s)]) rfl ?_
  refine g_cS1 rfl (args := [vI (nI s), vI (nI i)]) (rest := []) rfl rfl rfl (s_201 (d := d + 3) ) ?_
  refine g_if1 (i' := 41) (P := (((nI s) >>> ((nI i) &&& 31)) &&& 1) = 1) rfl rfl g_neB (fun h1 => ?_) (fun h1 => ?_)
  · refine g_pure 1 (i' := 42) (lv' := [some (vR 800), some (vI (nI i)), some (vI (nI v)), some (vI (nI t)), some (vI (nI s)), some (vI (nI x)), some (vI y)]) (st' := [vI 0]) rfl ?_
    refine g_bret rfl g_nar0 ?_
    exact o1 h1
  · refine g_pure 3 (i' := 19) (lv' := [some (vR 800), some (vI (nI i)), some (vI (nI v)), some (vI (nI t)), some (vI (nI s)), some (vI (nI x)), some (vI y)]) (st' := [vI 0, vI (nI x), vR 800]) rfl ?_
    refine gW_eq (st' := [vI (nI 0), vI (nI x), vR 800]) rfl (by rw [(show (0 : Int32) = nI 0 from rfl)]) rfl ?_
    refine g_cV1 rfl (args := [vR 800, vI (nI x), vI (nI 0)]) (rest := []) rfl rfl rfl (s_245 (d := d + 3) hS (by omega) (by omega)) ?_
    refine gW_eq (st' := [vI (S (269 + 5 * x))]) rfl (by rw [show S (269 + 5 * x + 0) = S (269 + 5 * x) from congrArg S (by omega)]) rfl ?_
    refine g_pure 1 (i' := 21) (lv' := [some (vR 800), some (vI (nI i)), some (vI (nI v)), some (vI (nI t)), some (vI (nI s)), some (vI (nI x)), some (vI y)]) (st' := [vI (nI v), vI (S (269 + 5 * x))]) rfl ?_
    have t2 := (hI.tas (k := x) (by omega)).1
    have t2b := t2.2
    refine g_if2 (i' := 41) (P := ¬ sn S (269 + 5 * x) = v) rfl rfl (g_neN (show S (269 + 5 * x) = nI (sn S (269 + 5 * x)) from t2.1) (show nI v = nI v from (rfl : nI v = nI v)) (by omega) (by omega)) (fun h3 => ?_) (fun h3 => ?_)
    · refine g_pure 1 (i' := 42) (lv' := [some (vR 800), some (vI (nI i)), some (vI (nI v)), some (vI (nI t)), some (vI (nI s)), some (vI (nI x)), some (vI y)]) (st' := [vI 0]) rfl ?_
      refine g_bret rfl g_nar0 ?_
      exact o2 h1 h3
    · have h3 := Classical.not_not.mp h3
      refine g_pure 3 (i' := 25) (lv' := [some (vR 800), some (vI (nI i)), some (vI (nI v)), some (vI (nI t)), some (vI (nI s)), some (vI (nI x)), some (vI y)]) (st' := [vI (nI t), vI (nI v), vR 800]) rfl ?_
      refine g_cV1 rfl (args := [vR 800, vI (nI v), vI (nI t)]) (rest := []) rfl rfl rfl (s_232 (d := d + 2) hI hS (by omega) (by omega)) ?_
      have t4 := Nat.mod_lt (t) (y := sn S 9) (by omega)
      refine g_pure 3 (i' := 29) (lv' := [some (vR 800), some (vI (nI i)), some (vI (nI v)), some (vI (nI t)), some (vI (nI s)), some (vI (nI x)), some (vI y)]) (st' := [vI 1, vI (nI x), vR 800, vI (S (17 + 16 * v + (t % (sn S 9))))]) rfl ?_
      refine gW_eq (st' := [vI (nI 1), vI (nI x), vR 800, vI (S (17 + 16 * v + (t % (sn S 9))))]) rfl (by rw [(show (1 : Int32) = nI 1 from rfl)]) rfl ?_
      refine g_cV1 rfl (args := [vR 800, vI (nI x), vI (nI 1)]) (rest := [vI (S (17 + 16 * v + (t % (sn S 9))))]) rfl rfl rfl (s_245 (d := d + 3) hS (by omega) (by omega)) ?_
      have t5 := hI.tbb (v := v) (q := (t % (sn S 9))) (by omega) (by omega)
      have t6 := (hI.tas (k := x) (by omega)).2.1
      have t6b := t6.2
      refine g_if2 (i' := 41) (P := ¬ sn S (17 + 16 * v + (t % (sn S 9))) = sn S (269 + 5 * x + 1)) rfl rfl (g_neN (show S (17 + 16 * v + (t % (sn S 9))) = nI (sn S (17 + 16 * v + (t % (sn S 9)))) from (hI.tb (by omega) (by omega))) (show S (269 + 5 * x + 1) = nI (sn S (269 + 5 * x + 1)) from t6.1) (by omega) (by omega)) (fun h7 => ?_) (fun h7 => ?_)
      · refine g_pure 1 (i' := 42) (lv' := [some (vR 800), some (vI (nI i)), some (vI (nI v)), some (vI (nI t)), some (vI (nI s)), some (vI (nI x)), some (vI y)]) (st' := [vI 0]) rfl ?_
        refine g_bret rfl g_nar0 ?_
        exact o3 h1 h3 h7
      · have h7 := Classical.not_not.mp h7
        refine g_pure 1 (i' := 32) (lv' := [some (vR 800), some (vI (nI i)), some (vI (nI v)), some (vI (nI t)), some (vI (nI s)), some (vI (nI x)), some (vI y)]) (st' := [vI y]) rfl ?_
        refine g_if1 (i' := 41) (P := y < 0) rfl rfl Iff.rfl (fun h8 => ?_) (fun h8 => ?_)
        · refine g_pure 1 (i' := 42) (lv' := [some (vR 800), some (vI (nI i)), some (vI (nI v)), some (vI (nI t)), some (vI (nI s)), some (vI (nI x)), some (vI y)]) (st' := [vI 0]) rfl ?_
          refine g_bret rfl g_nar0 ?_
          exact o4 h1 h3 h7 h8
        · refine g_pure 5 (i' := 38) (lv' := [some (vR 800), some (vI (nI i)), some (vI (nI v)), some (vI (nI t)), some (vI (nI s)), some (vI (nI x)), some (vI y)]) (st' := [vI (y &&& (nI s ^^^ (-1)))]) rfl ?_
          refine g_if1 (i' := 41) (P := ¬ (y &&& (nI s ^^^ (-1))) = 0) rfl rfl Iff.rfl (fun h9 => ?_) (fun h9 => ?_)
          · refine g_pure 1 (i' := 42) (lv' := [some (vR 800), some (vI (nI i)), some (vI (nI v)), some (vI (nI t)), some (vI (nI s)), some (vI (nI x)), some (vI y)]) (st' := [vI 0]) rfl ?_
            refine g_bret rfl g_nar0 ?_
            exact o5 h1 h3 h7 h8 h9
          · have h9 := Classical.not_not.mp h9
            refine g_pure 2 (i' := 42) (lv' := [some (vR 800), some (vI (nI i)), some (vI (nI v)), some (vI (nI t)), some (vI (nI s)), some (vI (nI x)), some (vI y)]) (st' := [vI 1]) rfl ?_
            refine g_bret rfl g_nar1 ?_
            exact o6 h1 h3 h7 h8 h9

theorem b_309_0 {X : Nat × (Nat → Int32)} {d : Nat} {p : Nat → Nat} {sg : Mg} {Q : am_R → Prop} {B : Nat} {S : Nat → Int32} (hI : Inv B S) (hS : sg 801 = S) (hA : InvA S) {k : Nat} {t : Nat} {v : Nat} {s : Nat} (u_k : k ≤ 7) (u_t : t ≤ 400) (u_v : v ≤ 5) (u_s : s ≤ 31) (q1 : k < sn S 1) (q2 : v < sn S 0)
    (o1 : ∀ s1 : Mg, s1 = mu sg 818 (192 * (t + 1) + 32 * v + s) 1 → ∀ s2 : Mg, (∃ f, s2 = va_up s1 807 f) → (¬ (bd S k v (sn S 8 + t) = true)) → gW X (d + 8) k_309 20 [some (vR 800), some (vI (nI k)), some (vI (nI t)), some (vI (nI v)), some (vI (nI s)), none] [] p s2 Q)
    (o2 : ∀ s1 : Mg, s1 = mu sg 818 (192 * (t + 1) + 32 * v + s) 1 → ∀ s2 : Mg, (∃ f, s2 = va_up s1 807 f) → ((bd S k v (sn S 8 + t) = true)) → Q (gR0 p s2)) :
    gW X (d + 8) k_309 0 [some (vR 800), some (vI (nI k)), some (vI (nI t)), some (vI (nI v)), some (vI (nI s)), none] [] p sg Q := by
  have b0 := hI.b0; have b1 := hI.b1; have b2 := hI.b2; have b3 := hI.b3; have b4 := hI.b4; have b5 := hI.b5; have b6 := hI.b6; have b7 := hI.b7; have b8 := hI.b8; have b9 := hI.b9; have b14 := hI.b14
  refine g_pure 7 (i' := 7) (lv' := [some (vR 800), some (vI (nI k)), some (vI (nI t)), some (vI (nI v)), some (vI (nI s)), none]) (st' := [vI (nI s), vI (nI v), vI (nI t + 1), vR 818]) rfl ?_
  refine gW_eq (lv' := [some (vR 800), some (vI (nI k)), some (vI (nI t)), some (vI (nI v)), some (vI (nI s)), none]) (st' := [vI (nI s), vI (nI v), vI (nI (t + 1)), vR 818]) rfl (by rw [(show (nI t + 1) = nI (t + 1) from ((g_add (rfl : nI t = nI t) (show (1 : Int32) = nI 1 from rfl))).trans (congrArg nI (by omega)))]) rfl ?_
  refine g_cS1 rfl (args := [vI (nI (t + 1)), vI (nI v), vI (nI s)]) (rest := [vR 818]) rfl rfl rfl (s_306 (d := d + 7) (by omega) (by omega) (by omega)) ?_
  refine g_pure 1 (i' := 9) (lv' := [some (vR 800), some (vI (nI k)), some (vI (nI t)), some (vI (nI v)), some (vI (nI s)), none]) (st' := [vI 1, vI (nI (192 * (t + 1) + 32 * v + s)), vR 818]) rfl ?_
  refine g_bast3 rfl (g_A (a := 818) (kd := 3) (n := 77952) rfl (by decide)) (by decide) (show nI (192 * (t + 1) + 32 * v + s) = nI (192 * (t + 1) + 32 * v + s) from (rfl : nI (192 * (t + 1) + 32 * v + s) = nI (192 * (t + 1) + 32 * v + s))) (by omega) g_nar1 ?_
  refine g_setv (fun s1 es1 => ?_)
  have hSs1 : s1 801 = S := by rw [es1, mu_ne (by decide), hS]
  refine g_pure 4 (i' := 14) (lv' := [some (vR 800), some (vI (nI k)), some (vI (nI t)), some (vI (nI v)), some (vI (nI s)), none]) (st' := [vR 800, vI (nI v), vI (nI k), vR 800]) rfl ?_
  refine g_cV1 rfl (args := [vR 800]) (rest := [vI (nI v), vI (nI k), vR 800]) rfl rfl rfl (s_248 (d := d + 7) hSs1) ?_
  refine g_pure 2 (i' := 17) (lv' := [some (vR 800), some (vI (nI k)), some (vI (nI t)), some (vI (nI v)), some (vI (nI s)), none]) (st' := [vI (S 8 + nI t), vI (nI v), vI (nI k), vR 800]) rfl ?_
  refine gW_eq (lv' := [some (vR 800), some (vI (nI k)), some (vI (nI t)), some (vI (nI v)), some (vI (nI s)), none]) (st' := [vI (nI (sn S 8 + t)), vI (nI v), vI (nI k), vR 800]) rfl (by rw [(show (S 8 + nI t) = nI (sn S 8 + t) from ((g_add (hI.c8) (rfl : nI t = nI t))).trans (congrArg nI (by omega)))]) rfl ?_
  refine g_cV1E rfl (args := [vR 800, vI (nI k), vI (nI v), vI (nI (sn S 8 + t))]) (rest := []) rfl rfl rfl (s_254b (d := d + 1) hI hSs1 hA (by omega) (by omega) (by omega)) (fun s2 es2 => ?_)
  have hSs2 : s2 801 = S := by obtain ⟨f9, h9⟩ := es2; rw [h9, va_up_ne _ _ (by decide)]; exact hSs1
  refine g_if1 (i' := 20) (P := ¬ (bd S k v (sn S 8 + t) = true)) rfl rfl g_eqB (fun h3 => ?_) (fun h3 => ?_)
  · exact o1 s1 es1 s2 es2 h3
  · have h3 := Classical.not_not.mp h3
    refine g_vret rfl ?_
    exact o2 s1 es1 s2 es2 h3

theorem b_309_22 {X : Nat × (Nat → Int32)} {d : Nat} {p : Nat → Nat} {sg : Mg} {Q : am_R → Prop} {B : Nat} {S : Nat → Int32} (hI : Inv B S) (hS : sg 801 = S) {z1 : Option AV} {t : Nat} {v : Nat} {s : Nat} {j : Nat} (u_t : t ≤ 400) (u_v : v ≤ 5) (u_s : s ≤ 31) (u_j : j ≤ 12) (q1 : v < sn S 0)
    (o1 : (sn S 3 ≤ j) → Q (gR0 p sg))
    (o2 : (¬ (sn S 3 ≤ j)) → (otP S j v) → gW X (d + 8) k_309 31 [some (vR 800), z1, some (vI (nI t)), some (vI (nI v)), some (vI (nI s)), some (vI (nI j))] [] p sg Q)
    (o3 : (¬ (sn S 3 ≤ j)) → (¬ otP S j v) → gW X (d + 8) k_309 22 [some (vR 800), z1, some (vI (nI t)), some (vI (nI v)), some (vI (nI s)), some (vI (nI (j + 1)))] [] p sg Q) :
    gW X (d + 8) k_309 22 [some (vR 800), z1, some (vI (nI t)), some (vI (nI v)), some (vI (nI s)), some (vI (nI j))] [] p sg Q := by
  have b0 := hI.b0; have b1 := hI.b1; have b2 := hI.b2; have b3 := hI.b3; have b4 := hI.b4; have b5 := hI.b5; have b6 := hI.b6; have b7 := hI.b7; have b8 := hI.b8; have b9 := hI.b9; have b14 := hI.b14
  refine g_pure 2 (i' := 24) (lv' := [some (vR 800), z1, some (vI (nI t)), some (vI (nI v)), some (vI (nI s)), some (vI (nI j))]) (st' := [vR 800, vI (nI j)]) rfl ?_
  refine g_cV1 rfl (args := [vR 800]) (rest := [vI (nI j)]) rfl rfl rfl (s_209 (d := d + 7) hS) ?_
  refine g_if2 (i' := 49) (P := sn S 3 ≤ j) rfl rfl (g_geN (show nI j = nI j from (rfl : nI j = nI j)) (show S 3 = nI (sn S 3) from (hI.c3)) (by omega) (by omega)) (fun h1 => ?_) (fun h1 => ?_)
  · refine g_vret rfl ?_
    exact o1 h1
  · refine g_pure 3 (i' := 29) (lv' := [some (vR 800), z1, some (vI (nI t)), some (vI (nI v)), some (vI (nI s)), some (vI (nI j))]) (st' := [vI (nI v), vI (nI j), vR 800]) rfl ?_
    by_cases h2 : otP S j v
    · refine g_cV1 rfl (args := [vR 800, vI (nI j), vI (nI v)]) (rest := []) rfl rfl rfl (s_253o (d := d + 6) hI hS (by omega) (by omega) (by omega) (by assumption)) ?_
      have t3 := otN_lt hI (r := j) (by omega) v
      refine g_if1 (i' := 47) (P := otN S j v < 0) rfl rfl (g_ltN (show nI (otN S j v) = nI (otN S j v) from (rfl : nI (otN S j v) = nI (otN S j v))) (show 0 = nI 0 from (show (0 : Int32) = nI 0 from rfl)) (by omega) (by omega)) (fun h4 => absurd h4 (by omega)) (fun _ => ?_)
      exact o2 h1 h2
    · refine g_cV1 rfl (args := [vR 800, vI (nI j), vI (nI v)]) (rest := []) rfl rfl rfl (s_253x (d := d + 6) hI hS (by omega) (by omega) (by omega) (by assumption)) ?_
      refine g_if1 (i' := 47) (P := ((-1) : Int32) < 0) rfl rfl Iff.rfl (fun _ => ?_) (fun h5 => absurd (by decide) h5)
      refine g_pure 2 (i' := 22) (lv' := [some (vR 800), z1, some (vI (nI t)), some (vI (nI v)), some (vI (nI s)), some (vI (nI j + 1))]) (st' := []) rfl ?_
      refine gW_eq (lv' := [some (vR 800), z1, some (vI (nI t)), some (vI (nI v)), some (vI (nI s)), some (vI (nI (j + 1)))]) (st' := []) (by rw [(show (nI j + 1) = nI (j + 1) from ((g_add (rfl : nI j = nI j) (show (1 : Int32) = nI 1 from rfl))).trans (congrArg nI (by omega)))]) rfl rfl ?_
      exact o3 h1 h2

theorem b_309_31 {X : Nat × (Nat → Int32)} {d : Nat} {p : Nat → Nat} {sg : Mg} {Q : am_R → Prop} {B : Nat} {S : Nat → Int32} (hI : Inv B S) (hS : sg 801 = S) {z1 : Option AV} {t : Nat} {v : Nat} {s : Nat} {j : Nat} (u_t : t ≤ 400) (u_v : v ≤ 5) (u_s : s ≤ 31) (u_j : j ≤ 11) (q1 : v < sn S 0) (q2 : j < sn S 3) (hO : otP S j v)
    (o1 : ∀ s3 : Mg, s3 = mu sg 818 (192 * (t + sn S (177 + 3 * j + 2)) + 32 * (otN S j v) + s) 1 → gW X (d + 8) k_309 22 [some (vR 800), z1, some (vI (nI t)), some (vI (nI v)), some (vI (nI s)), some (vI (nI (j + 1)))] [] p s3 Q) :
    gW X (d + 8) k_309 31 [some (vR 800), z1, some (vI (nI t)), some (vI (nI v)), some (vI (nI s)), some (vI (nI j))] [] p sg Q := by
  have b0 := hI.b0; have b1 := hI.b1; have b2 := hI.b2; have b3 := hI.b3; have b4 := hI.b4; have b5 := hI.b5; have b6 := hI.b6; have b7 := hI.b7; have b8 := hI.b8; have b9 := hI.b9; have b14 := hI.b14
  refine g_pure 6 (i' := 37) (lv' := [some (vR 800), z1, some (vI (nI t)), some (vI (nI v)), some (vI (nI s)), some (vI (nI j))]) (st' := [vI 2, vI (nI j), vR 800, vI (nI t), vR 818]) rfl ?_
  refine gW_eq (st' := [vI (nI 2), vI (nI j), vR 800, vI (nI t), vR 818]) rfl (by rw [(show (2 : Int32) = nI 2 from rfl)]) rfl ?_
  refine g_cV1 rfl (args := [vR 800, vI (nI j), vI (nI 2)]) (rest := [vI (nI t), vR 818]) rfl rfl rfl (s_241 (d := d + 7) hS (by omega) (by omega)) ?_
  have t1 := (hI.roa (k := j) (by omega)).2.2.1
  have t1b := t1.2
  refine g_pure 4 (i' := 42) (lv' := [some (vR 800), z1, some (vI (nI t)), some (vI (nI v)), some (vI (nI s)), some (vI (nI j))]) (st' := [vI (nI v), vI (nI j), vR 800, vI (nI t + S (177 + 3 * j + 2)), vR 818]) rfl ?_
  refine gW_eq (lv' := [some (vR 800), z1, some (vI (nI t)), some (vI (nI v)), some (vI (nI s)), some (vI (nI j))]) (st' := [vI (nI v), vI (nI j), vR 800, vI (nI (t + sn S (177 + 3 * j + 2))), vR 818]) rfl (by rw [(show (nI t + S (177 + 3 * j + 2)) = nI (t + sn S (177 + 3 * j + 2)) from ((g_add (rfl : nI t = nI t) t1.1)).trans (congrArg nI (by omega)))]) rfl ?_
  refine g_cV1 rfl (args := [vR 800, vI (nI j), vI (nI v)]) (rest := [vI (nI (t + sn S (177 + 3 * j + 2))), vR 818]) rfl rfl rfl (s_253o (d := d + 6) hI hS (by omega) (by omega) (by omega) hO) ?_
  have t2 := otN_lt hI (r := j) (by omega) v
  refine g_pure 1 (i' := 44) (lv' := [some (vR 800), z1, some (vI (nI t)), some (vI (nI v)), some (vI (nI s)), some (vI (nI j))]) (st' := [vI (nI s), vI (nI (otN S j v)), vI (nI (t + sn S (177 + 3 * j + 2))), vR 818]) rfl ?_
  refine g_cS1 rfl (args := [vI (nI (t + sn S (177 + 3 * j + 2))), vI (nI (otN S j v)), vI (nI s)]) (rest := [vR 818]) rfl rfl rfl (s_306 (d := d + 7) (by omega) (by omega) (by omega)) ?_
  refine g_pure 1 (i' := 46) (lv' := [some (vR 800), z1, some (vI (nI t)), some (vI (nI v)), some (vI (nI s)), some (vI (nI j))]) (st' := [vI 1, vI (nI (192 * (t + sn S (177 + 3 * j + 2)) + 32 * (otN S j v) + s)), vR 818]) rfl ?_
  refine g_bast3 rfl (g_A (a := 818) (kd := 3) (n := 77952) rfl (by decide)) (by decide) (show nI (192 * (t + sn S (177 + 3 * j + 2)) + 32 * (otN S j v) + s) = nI (192 * (t + sn S (177 + 3 * j + 2)) + 32 * (otN S j v) + s) from (rfl : nI (192 * (t + sn S (177 + 3 * j + 2)) + 32 * (otN S j v) + s) = nI (192 * (t + sn S (177 + 3 * j + 2)) + 32 * (otN S j v) + s))) (by omega) g_nar1 ?_
  refine g_setv (fun s3 es3 => ?_)
  have hSs3 : s3 801 = S := by rw [es3, mu_ne (by decide), hS]
  refine g_pure 2 (i' := 22) (lv' := [some (vR 800), z1, some (vI (nI t)), some (vI (nI v)), some (vI (nI s)), some (vI (nI j + 1))]) (st' := []) rfl ?_
  refine gW_eq (lv' := [some (vR 800), z1, some (vI (nI t)), some (vI (nI v)), some (vI (nI s)), some (vI (nI (j + 1)))]) (st' := []) (by rw [(show (nI j + 1) = nI (j + 1) from ((g_add (rfl : nI j = nI j) (show (1 : Int32) = nI 1 from rfl))).trans (congrArg nI (by omega)))]) rfl rfl ?_
  exact o1 s3 es3

/-- the reference's planned tasks -/
def pkQ (np : Nat) (pk : Nat → Nat) (s : Mg) : Prop := s 800 28 = nI np ∧ ∀ i, i < np → s 817 i = nI (pk i)
noncomputable def rdB (S : Nat → Int32) (np : Nat) (pk : Nat → Nat) (s i T v : Nat) : Bool := @decide (RD S np pk s i T v) (Classical.propDecidable _)
theorem rdB_t {S : Nat → Int32} {np s i T v : Nat} {pk : Nat → Nat} : rdB S np pk s i T v = true ↔ RD S np pk s i T v := by unfold rdB; exact @decide_eq_true_iff _ (Classical.propDecidable _)
theorem rdB_f {S : Nat → Int32} {np s i T v : Nat} {pk : Nat → Nat} : rdB S np pk s i T v = false ↔ ¬ RD S np pk s i T v := by
  rw [← rdB_t]
  cases rdB S np pk s i T v <;> simp
/-- the bit of a task that must be done ahead -/
def btV (S : Nat → Int32) (np : Nat) (pk : Nat → Nat) (a : Nat) : Int32 := if dnP S a = true then 0 else if fnd (fun i => decide (pk i = a)) np 0 < np then 1 <<< (nI (fnd (fun i => decide (pk i = a)) np 0) &&& 31) else -1
theorem s_308 {X : Nat × (Nat → Int32)} {d : Nat} {p : Nat → Nat} {sg : Mg} {B : Nat} {S : Nat → Int32} (hI : Inv B S) (hS : sg 801 = S) {np a O : Nat} {pk : Nat → Nat} (hk : PK S O np pk) (hq : pkQ np pk sg) (hn : np ≤ 5) (ha : a < sn S 5) : gF X (d + 3) 308 [vR 800, vI (nI a)] p sg (fun r => r = gRv p sg (btV S np pk a)) := by
  have b5 := hI.b5
  refine g_in (cd := k_308) (nL := 3) (rc := 13) rfl (g_A (a := 800) (kd := 0) (n := 12) rfl (by decide)) (g_c1 rfl) (b_308_0 hI hS (by omega) ha (fun h => ?_) (fun h => by unfold btV; rw [if_pos h]))
  unfold btV
  rw [if_neg h]
  have key := g_upI (P := fun j => gW X (d + 2) k_308 10 [some (vR 800), some (vI (nI a)), some (vI (nI j))] [] p sg (fun r => r = gRv p sg (if fnd (fun i => decide (pk i = a)) np 0 < np then 1 <<< (nI (fnd (fun i => decide (pk i = a)) np 0) &&& 31) else -1))) (I := fun j => ∀ i, i < j → ¬ pk i = a) (n := np) (a := 0) (by omega) (fun i hi => absurd hi (Nat.not_lt_zero _)) ?_ ?_
  · exact key
  · intro j _ hj hi ih
    refine b_308_10 hI hS hn hq.1 (by omega) (by omega) (fun _ => hq.2 j hj) (by have := (hk.1 j hj).1; omega) (fun h => by omega) (fun _ h2 => ih (fun i h3 => ?_)) (fun _ h2 => ?_)
    · by_cases e : i = j
      · subst e; exact h2
      · exact hi i (by omega)
    · rw [show fnd (fun i => decide (pk i = a)) np 0 = j from fnd_eq (Nat.zero_le _) (by omega) (decide_eq_true h2) (fun i _ h3 => decide_eq_false (hi i h3)), if_pos hj]
  · intro hi
    refine b_308_10 (x := 0) hI hS hn hq.1 (by omega) hn (fun h => absurd h (Nat.lt_irrefl _)) (by omega) (fun _ => ?_) (fun h => by omega) (fun h => by omega)
    rw [if_neg (fun c => ?_)]
    have h2 := (fnd_spec (fun i => decide (pk i = a)) np 0).2.2.2 (by omega)
    exact hi _ c (of_decide_eq_true h2)
theorem s_308n {X : Nat × (Nat → Int32)} {d : Nat} {p : Nat → Nat} {sg : Mg} {B : Nat} {S : Nat → Int32} (hI : Inv B S) (hS : sg 801 = S) : gF X (d + 3) 308 [vR 800, vI (-1)] p sg (fun r => r = gRv p sg 0) := g_in (cd := k_308) (nL := 3) (rc := 13) rfl (g_A (a := 800) (kd := 0) (n := 12) rfl (by decide)) (g_c1 rfl) (b_308_n hI hS rfl)
theorem bt_ok : ∀ j, j < 5 → ¬ ((1 : Int32) <<< (nI j &&& 31)) < 0 := by decide
theorem bt_in : ∀ j, j < 5 → ∀ s, s < 32 → (((1 : Int32) <<< (nI j &&& 31)) &&& (nI s ^^^ (-1)) = 0 ↔ s.testBit j = true) := by decide +kernel
theorem dnP_iff {B : Nat} {S : Nat → Int32} (hI : Inv B S) {k : Nat} (hk : k < sn S 5) : dnP S k = true ↔ ¬ S (269 + 5 * k + 3) = -1 := by
  have b1 := hI.b1
  unfold dnP
  rw [decide_eq_true_iff]
  rcases (hI.tas hk).2.2.2 with h | h
  · rw [h.1]; decide
  · rw [h.1.1]
    exact ⟨fun _ => nI_m1 (by have := h.1.2; omega), fun _ => nI_pos' (by have := h.1.2; omega)⟩
theorem s_307 {X : Nat × (Nat → Int32)} {d : Nat} {p : Nat → Nat} {sg : Mg} {B : Nat} {S : Nat → Int32} (hI : Inv B S) (hS : sg 801 = S) {np i v t s O : Nat} {pk : Nat → Nat} (hk : PK S O np pk) (hq : pkQ np pk sg) (hn : np ≤ 5) (hi : i < np) (hv : v ≤ 5) (ht : t ≤ 200400) (hs : s ≤ 31) : gF X (d + 5) 307 [vR 800, vI (nI i), vI (nI v), vI (nI t), vI (nI s)] p sg (fun r => r = gRv p sg (if rdB S np pk s i t v = true then 1 else 0)) := by
  have b5 := hI.b5
  have hp := (hk.1 i hi).1
  have hT := hI.tas hp
  refine g_in (cd := k_307) (nL := 7) (rc := 13) rfl (g_A (a := 800) (kd := 0) (n := 12) rfl (by decide)) (g_c1 rfl) (b_307_0 hI hS (by omega) hv ht hs (hq.2 i hi) (by omega) ?_)
  have hb := nI_bit1 (a := s) (k := i) (by omega) (by omega)
  have fin : ∀ y : Int32, ((¬ y < 0 ∧ (y &&& (nI s ^^^ (-1))) = 0) ↔ (S (269 + 5 * pk i + 2) = -1 ∨ ¬ S (269 + 5 * sn S (269 + 5 * pk i + 2) + 3) = -1 ∨ ∃ j, j < np ∧ pk j = sn S (269 + 5 * pk i + 2) ∧ s.testBit j = true)) → gW X (d + 4) k_307 11 [some (vR 800), some (vI (nI i)), some (vI (nI v)), some (vI (nI t)), some (vI (nI s)), some (vI (nI (pk i))), none] [vI y] p sg (fun r => r = gRv p sg (if rdB S np pk s i t v = true then 1 else 0)) := fun y hy => by
    have no : ¬ RD S np pk s i t v → gRv p sg 0 = gRv p sg (if rdB S np pk s i t v = true then 1 else 0) := fun h => by rw [rdB_f.mpr h]; rfl
    refine g_pure 1 (i' := 12) (lv' := [some (vR 800), some (vI (nI i)), some (vI (nI v)), some (vI (nI t)), some (vI (nI s)), some (vI (nI (pk i))), some (vI y)]) (st' := []) rfl ?_
    refine b_307_12 hI hS (by omega) hv ht hs (by omega) hp (fun h => no (fun g => ?_)) (fun _ h => no (fun g => h g.2.1)) (fun _ h1 h2 => no (fun g => h2 ?_)) (fun _ _ _ h => no (fun g => (hy.mpr g.2.2.2).1 h)) (fun _ _ _ _ h => no (fun g => h (hy.mpr g.2.2.2).2)) (fun h1 h2 h3 h4 h5 => ?_)
    · have := g.1
      rw [hb.mp h] at this
      cases this
    · rw [← h1]
      exact g.2.2.1
    · rw [rdB_t.mpr ⟨by by_cases c : s.testBit i = true; exact absurd (hb.mpr c) h1; simpa using c, h2, by show sn S _ = _; rw [h2]; exact h3, hy.mp ⟨h4, h5⟩⟩]
      rfl
  rcases hT.2.2.1 with ha | ha
  · rw [ha]
    refine g_cV1 rfl (args := [vR 800, vI (-1)]) (rest := []) rfl rfl rfl (s_308n (d := d + 1) hI hS) ?_
    exact fin 0 ⟨fun _ => Or.inl ha, fun _ => ⟨by decide, by simp⟩⟩
  · rw [ha.1]
    have ha5 : sn S (269 + 5 * pk i + 2) < sn S 5 := Nat.lt_trans ha.2 hp
    refine g_cV1 rfl (args := [vR 800, vI (nI (sn S (269 + 5 * pk i + 2)))]) (rest := []) rfl rfl rfl (s_308 (d := d + 1) hI hS hk hq hn ha5) ?_
    refine fin _ ?_
    have h1 : ¬ S (269 + 5 * pk i + 2) = -1 := fun h => by
      rw [ha.1] at h
      exact absurd h (nI_m1 (by omega))
    have hd : dnP S (sn S (269 + 5 * pk i + 2)) = true ↔ ¬ S (269 + 5 * sn S (269 + 5 * pk i + 2) + 3) = -1 := dnP_iff hI ha5
    unfold btV
    by_cases c : dnP S (sn S (269 + 5 * pk i + 2)) = true
    · rw [if_pos c]
      exact ⟨fun _ => Or.inr (Or.inl (hd.mp c)), fun _ => ⟨by decide, by simp⟩⟩
    · rw [if_neg c]
      by_cases e : fnd (fun i_1 => decide (pk i_1 = sn S (269 + 5 * pk i + 2))) np 0 < np
      · rw [if_pos e]
        have h2 := of_decide_eq_true ((fnd_spec (fun i_1 => decide (pk i_1 = sn S (269 + 5 * pk i + 2))) np 0).2.2.2 (by omega))
        generalize fnd (fun i_1 => decide (pk i_1 = sn S (269 + 5 * pk i + 2))) np 0 = f at e h2
        rw [bt_in f (by omega) s (by omega)]
        refine ⟨fun g => Or.inr (Or.inr ⟨f, e, h2, g.2⟩), fun g => ⟨bt_ok f (by omega), ?_⟩⟩
        rcases g with g | g | ⟨j, g1, g2, g3⟩
        · exact absurd g h1
        · exact absurd (hd.mpr g) c
        · rw [hk.2.1 f j e g1 (h2.trans g2.symm)]; exact g3
      · rw [if_neg e]
        refine ⟨fun g => absurd (by decide) g.1, fun g => ?_⟩
        rcases g with g | g | ⟨j, g1, g2, g3⟩
        · exact absurd g h1
        · exact absurd (hd.mpr g) c
        · have h3 := (fnd_spec (fun i_1 => decide (pk i_1 = sn S (269 + 5 * pk i + 2))) np 0).2.2.1 j (Nat.zero_le _) (by omega)
          exact absurd g2 (of_decide_eq_false h3)
/-- what planning may write in the reference -/
def SP (sg s : Mg) : Prop := ∀ c, c ≠ 807 → c ≠ 818 → s c = sg c
theorem SP.rf (sg : Mg) : SP sg sg := fun _ _ _ => rfl
theorem SP.tr {a b c : Mg} (h : SP a b) (g : SP b c) : SP a c := fun x h1 h2 => (g x h1 h2).trans (h x h1 h2)
theorem SP.S {sg s : Mg} {S : Nat → Int32} (h : SP sg s) (hS : sg 801 = S) : s 801 = S := by rw [h 801 (by decide) (by decide)]; exact hS
theorem pkQ.sp {np : Nat} {pk : Nat → Nat} {sg s : Mg} (h : pkQ np pk sg) (g : SP sg s) : pkQ np pk s := ⟨by rw [g 800 (by decide) (by decide)]; exact h.1, fun i hi => by rw [g 817 (by decide) (by decide)]; exact h.2 i hi⟩
/-- where one can be next -/
def scP (S : Nat → Int32) (k : Nat) (C : Nat → Bool) (t v s m : Nat) : Prop := C (192 * (t + 1) + 32 * v + s) = true ∧ (bd S k v (sn S 8 + t) = false → ∀ r, r < m → otP S r v → C (192 * (t + sn S (177 + 3 * r + 2)) + 32 * otN S r v + s) = true)
def mvP (S : Nat → Int32) (k : Nat) (C C' : Nat → Bool) (t v s m : Nat) : Prop := (∀ i, C i = true → C' i = true) ∧ scP S k C' t v s m ∧ ∀ i, C' i = true → C i = true ∨ i = 192 * (t + 1) + 32 * v + s ∨ (bd S k v (sn S 8 + t) = false ∧ ∃ r, r < sn S 3 ∧ otP S r v ∧ i = 192 * (t + sn S (177 + 3 * r + 2)) + 32 * otN S r v + s)
theorem upB_of {C : Nat → Bool} {i x : Nat} (h : upB C i x = true) : C x = true ∨ x = i := by
  unfold upB at h
  rw [Bool.or_eq_true] at h
  exact h.imp_right of_decide_eq_true
theorem s_309 {X : Nat × (Nat → Int32)} {d : Nat} {p : Nat → Nat} {sg : Mg} {B : Nat} {S : Nat → Int32} (hI : Inv B S) (hS : sg 801 = S) (hA : InvA S) {k t v s : Nat} {C : Nat → Bool} (hk : k < sn S 1) (ht : t ≤ 400) (hv : v < sn S 0) (hs : s ≤ 31) (hC : cnM 818 77952 sg C) : gF X (d + 9) 309 [vR 800, vI (nI k), vI (nI t), vI (nI v), vI (nI s)] p sg (fun r => ∃ m, (SP sg m ∧ ∃ C', cnM 818 77952 m C' ∧ mvP S k C C' t v s (sn S 3)) ∧ r = gR0 p m) := by
  have b0 := hI.b0; have b1 := hI.b1; have b3 := hI.b3
  refine g_in (cd := k_309) (nL := 6) (rc := 13) rfl (g_A (a := 800) (kd := 0) (n := 12) rfl (by decide)) (g_c1 rfl) (b_309_0 hI hS hA (by omega) ht (by omega) hs hk hv (fun s1 e1 s2 e2 hb => ?_) (fun s1 e1 s2 e2 hb => ?_))
  all_goals
    obtain ⟨f, e2⟩ := e2
    have h2 : SP sg s2 := fun c c1 c2 => by rw [e2, va_up_ne _ _ c1, e1, mu_ne c2]
    have hC2 : cnM 818 77952 s2 (upB C (192 * (t + 1) + 32 * v + s)) := by
      refine cnM.eq (s := s1) ?_ (by rw [e2, va_up_ne _ _ (by decide)])
      rw [e1]
      exact hC.up
  · refine g_pure 2 (i' := 22) (lv' := [some (vR 800), some (vI (nI k)), some (vI (nI t)), some (vI (nI v)), some (vI (nI s)), some (vI 0)]) (st' := []) rfl ?_
    have key := g_upI (P := fun j => ∀ m C', SP sg m → cnM 818 77952 m C' → mvP S k C C' t v s j → gW X (d + 8) k_309 22 [some (vR 800), some (vI (nI k)), some (vI (nI t)), some (vI (nI v)), some (vI (nI s)), some (vI (nI j))] [] p m (fun r => ∃ m, (SP sg m ∧ ∃ C', cnM 818 77952 m C' ∧ mvP S k C C' t v s (sn S 3)) ∧ r = gR0 p m)) (I := fun _ => True) (n := sn S 3) (a := 0) (by omega) trivial ?_ ?_
    · exact key s2 _ h2 hC2 ⟨fun i => upB_old, ⟨upB_self, fun _ r hr => absurd hr (Nat.not_lt_zero _)⟩, fun i hi => (upB_of hi).imp_right Or.inl⟩
    · intro j _ hj _ ih m C' h1 h3 h4
      have ih := ih trivial
      refine b_309_22 hI (h1.S hS) ht (by omega) hs (by omega) hv (fun h => by omega) (fun _ ho => ?_) (fun _ ho => ?_)
      · have hl := (hI.roa hj).2.2
        have hu := otN_lt hI hj v
        refine b_309_31 hI (h1.S hS) ht (by omega) hs (by omega) hv hj ho (fun s3 e3 => ?_)
        refine ih s3 (upB C' (192 * (t + sn S (177 + 3 * j + 2)) + 32 * otN S j v + s)) (h1.tr (fun c _ c2 => by rw [e3, mu_ne c2])) (by rw [e3]; exact h3.up) ⟨fun i hi => upB_old (h4.1 i hi), ⟨upB_old h4.2.1.1, fun hb r hr ho => ?_⟩, fun i hi => ?_⟩
        · by_cases e : r = j
          · subst e; exact upB_self
          · exact upB_old (h4.2.1.2 hb r (by omega) ho)
        · rcases upB_of hi with g | g
          · exact h4.2.2 i g
          · exact Or.inr (Or.inr ⟨by simpa using hb, j, hj, ho, g⟩)
      · refine ih m C' h1 h3 ⟨h4.1, ⟨h4.2.1.1, fun hb r hr ho2 => ?_⟩, h4.2.2⟩
        by_cases e : r = j
        · subst e; exact absurd ho2 ho
        · exact h4.2.1.2 hb r (by omega) ho2
    · intro _ m C' h1 h3 h4
      exact b_309_22 hI (h1.S hS) ht (by omega) hs (by omega) hv (fun _ => ⟨m, ⟨h1, C', h3, h4⟩, rfl⟩) (fun h => by omega) (fun h => by omega)
  · exact ⟨s2, ⟨h2, _, hC2, fun i => upB_old, ⟨upB_self, fun h => by rw [hb] at h; cases h⟩, fun i hi => (upB_of hi).imp_right Or.inl⟩, rfl⟩
