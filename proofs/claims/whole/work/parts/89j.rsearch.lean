/-! PLAN: the search of the reference (made by wip/whole/gen89j.py) -/
theorem b_305_0 {X : Nat × (Nat → Int32)} {d : Nat} {p : Nat → Nat} {sg : Mg} {Q : am_R → Prop} {B : Nat} {S : Nat → Int32} (hI : Inv B S) (hS : sg 801 = S) {k : Nat} {al : Int32} (u_k : k ≤ 7)
    (o1 : gW X (d + 9) k_305 2 [some (vR 800), some (vI (nI k)), some (vI al), some (vI 0), none, none, none, none] [] p sg Q) :
    gW X (d + 9) k_305 0 [some (vR 800), some (vI (nI k)), some (vI al), none, none, none, none, none] [] p sg Q := by
  have b0 := hI.b0; have b1 := hI.b1; have b2 := hI.b2; have b3 := hI.b3; have b4 := hI.b4; have b5 := hI.b5; have b6 := hI.b6; have b7 := hI.b7; have b8 := hI.b8; have b9 := hI.b9; have b14 := hI.b14
  refine g_pure 2 (i' := 2) (lv' := [some (vR 800), some (vI (nI k)), some (vI al), some (vI 0), none, none, none, none]) (st' := []) rfl ?_
  exact o1

theorem b_305_2 {X : Nat × (Nat → Int32)} {d : Nat} {p : Nat → Nat} {sg : Mg} {Q : am_R → Prop} {B : Nat} {S : Nat → Int32} (hI : Inv B S) (hS : sg 801 = S) {k : Nat} {al : Int32} {j : Nat} (u_k : k ≤ 7) (u_j : j ≤ 77952)
    (o1 : (77952 ≤ j) → gW X (d + 9) k_305 14 [some (vR 800), some (vI (nI k)), some (vI al), some (vI (nI j)), none, none, none, none] [] p sg Q)
    (o2 : (¬ (77952 ≤ j)) → ∀ s2 : Mg, s2 = mu sg 818 j 0 → gW X (d + 9) k_305 2 [some (vR 800), some (vI (nI k)), some (vI al), some (vI (nI (j + 1))), none, none, none, none] [] p s2 Q) :
    gW X (d + 9) k_305 2 [some (vR 800), some (vI (nI k)), some (vI al), some (vI (nI j)), none, none, none, none] [] p sg Q := by
  have b0 := hI.b0; have b1 := hI.b1; have b2 := hI.b2; have b3 := hI.b3; have b4 := hI.b4; have b5 := hI.b5; have b6 := hI.b6; have b7 := hI.b7; have b8 := hI.b8; have b9 := hI.b9; have b14 := hI.b14
  refine g_pure 3 (i' := 5) (lv' := [some (vR 800), some (vI (nI k)), some (vI al), some (vI (nI j)), none, none, none, none]) (st' := [vR 818, vI (nI j)]) rfl ?_
  refine g_len rfl (by decide) (by decide) (g_A (a := 818) (kd := 3) (n := 77952) rfl (by decide)) ?_
  refine gW_eq (lv' := [some (vR 800), some (vI (nI k)), some (vI al), some (vI (nI j)), none, none, none, none]) (st' := [vI 77952, vI (nI j)]) rfl (by rw [(show (nI 77952 : Int32) = 77952 from rfl)]) rfl ?_
  refine g_if2 (i' := 14) (P := 77952 ≤ j) rfl rfl (g_geN (show nI j = nI j from (rfl : nI j = nI j)) (show 77952 = nI 77952 from (show (77952 : Int32) = nI 77952 from rfl)) (by omega) (by omega)) (fun h1 => ?_) (fun h1 => ?_)
  · exact o1 h1
  · refine g_pure 4 (i' := 11) (lv' := [some (vR 800), some (vI (nI k)), some (vI al), some (vI (nI j)), none, none, none, none]) (st' := [vI 0, vI (nI j), vR 818]) rfl ?_
    refine g_bast3 rfl (g_A (a := 818) (kd := 3) (n := 77952) rfl (by decide)) (by decide) (show nI j = nI j from (rfl : nI j = nI j)) (by omega) g_nar0 ?_
    refine g_setv (fun s2 es2 => ?_)
    have hSs2 : s2 801 = S := by rw [es2, mu_ne (by decide), hS]
    refine g_pure 2 (i' := 2) (lv' := [some (vR 800), some (vI (nI k)), some (vI al), some (vI (nI j + 1)), none, none, none, none]) (st' := []) rfl ?_
    refine gW_eq (lv' := [some (vR 800), some (vI (nI k)), some (vI al), some (vI (nI (j + 1))), none, none, none, none]) (st' := []) (by rw [(show (nI j + 1) = nI (j + 1) from ((g_add (rfl : nI j = nI j) (show (1 : Int32) = nI 1 from rfl))).trans (congrArg nI (by omega)))]) rfl rfl ?_
    exact o2 h1 s2 es2

theorem b_305_14 {X : Nat × (Nat → Int32)} {d : Nat} {p : Nat → Nat} {sg : Mg} {Q : am_R → Prop} {B : Nat} {S : Nat → Int32} (hI : Inv B S) (hS : sg 801 = S) {np : Nat} (u_np : np ≤ 5) (kn_800_28 : sg 800 28 = nI np) {k : Nat} {al : Int32} {z3 : Option AV} (u_k : k ≤ 7)
    (o1 : gW X (d + 9) k_305 21 [some (vR 800), some (vI (nI k)), some (vI al), some (vI ((1 <<< (nI np &&& 31)) - 1)), none, none, none, none] [] p sg Q) :
    gW X (d + 9) k_305 14 [some (vR 800), some (vI (nI k)), some (vI al), z3, none, none, none, none] [] p sg Q := by
  have b0 := hI.b0; have b1 := hI.b1; have b2 := hI.b2; have b3 := hI.b3; have b4 := hI.b4; have b5 := hI.b5; have b6 := hI.b6; have b7 := hI.b7; have b8 := hI.b8; have b9 := hI.b9; have b14 := hI.b14
  refine g_pure 2 (i' := 16) (lv' := [some (vR 800), some (vI (nI k)), some (vI al), z3, none, none, none, none]) (st' := [vR 800, vI 1]) rfl ?_
  refine g_getI rfl (g_A (a := 800) (kd := 0) (n := 12) rfl (by decide)) (show _ = nI np from kn_800_28) ?_
  refine g_pure 4 (i' := 21) (lv' := [some (vR 800), some (vI (nI k)), some (vI al), some (vI ((1 <<< (nI np &&& 31)) - 1)), none, none, none, none]) (st' := []) rfl ?_
  exact o1

theorem b_305_21 {X : Nat × (Nat → Int32)} {d : Nat} {p : Nat → Nat} {sg : Mg} {Q : am_R → Prop} {B : Nat} {S : Nat → Int32} (hI : Inv B S) (hS : sg 801 = S) {np : Nat} {k : Nat} {al : Int32} (u_k : k ≤ 7) (u_2np1 : 2 ^ np - 1 ≤ 31) (q1 : k < sn S 1)
    (o1 : ∀ s7 : Mg, s7 = mu sg 818 (192 * (stN S k - sn S 8) + 32 * (hmN S k) + 0) 1 → gW X (d + 9) k_305 42 [some (vR 800), some (vI (nI k)), some (vI al), some (vI (nI (2 ^ np - 1))), some (vI 0), none, none, none] [] p s7 Q) :
    gW X (d + 9) k_305 21 [some (vR 800), some (vI (nI k)), some (vI al), some (vI (nI (2 ^ np - 1))), none, none, none, none] [] p sg Q := by
  have b0 := hI.b0; have b1 := hI.b1; have b2 := hI.b2; have b3 := hI.b3; have b4 := hI.b4; have b5 := hI.b5; have b6 := hI.b6; have b7 := hI.b7; have b8 := hI.b8; have b9 := hI.b9; have b14 := hI.b14
  refine g_pure 2 (i' := 23) (lv' := [some (vR 800), some (vI (nI k)), some (vI al), some (vI (nI (2 ^ np - 1))), none, none, none, none]) (st' := [vI (nI k), vR 800]) rfl ?_
  refine g_cV1 rfl (args := [vR 800, vI (nI k)]) (rest := []) rfl rfl rfl (s_275 (d := d + 7) hI hS (by omega)) ?_
  have t1 := (hm_ok hI (k := k) (by omega)).2.1
  have t2 := (hm_ok hI (k := k) (by omega)).2.2.1
  refine g_pure 1 (i' := 25) (lv' := [some (vR 800), some (vI (nI k)), some (vI al), some (vI (nI (2 ^ np - 1))), none, none, none, none]) (st' := [vI 400, vI (nI (stN S k - sn S 8))]) rfl ?_
  refine g_if2 (i' := 28) (P := stN S k - sn S 8 ≤ 400) rfl rfl (g_leN (show nI (stN S k - sn S 8) = nI (stN S k - sn S 8) from (rfl : nI (stN S k - sn S 8) = nI (stN S k - sn S 8))) (show 400 = nI 400 from (show (400 : Int32) = nI 400 from rfl)) (by omega) (by omega)) (fun _ => ?_) (fun h3 => absurd (by omega) h3)
  refine g_pure 4 (i' := 32) (lv' := [some (vR 800), some (vI (nI k)), some (vI al), some (vI (nI (2 ^ np - 1))), none, none, none, none]) (st' := [vI (nI k), vR 800, vR 818]) rfl ?_
  refine g_cV1 rfl (args := [vR 800, vI (nI k)]) (rest := [vR 818]) rfl rfl rfl (s_275 (d := d + 7) hI hS (by omega)) ?_
  have t4 := (hm_ok hI (k := k) (by omega)).2.1
  have t5 := (hm_ok hI (k := k) (by omega)).2.2.1
  refine g_pure 2 (i' := 35) (lv' := [some (vR 800), some (vI (nI k)), some (vI al), some (vI (nI (2 ^ np - 1))), none, none, none, none]) (st' := [vI (nI k), vR 800, vI (nI (stN S k - sn S 8)), vR 818]) rfl ?_
  refine g_cV1 rfl (args := [vR 800, vI (nI k)]) (rest := [vI (nI (stN S k - sn S 8)), vR 818]) rfl rfl rfl (s_274 (d := d + 7) hI hS (by omega)) ?_
  have t6 := (hm_ok hI (k := k) (by omega)).1
  refine g_pure 1 (i' := 37) (lv' := [some (vR 800), some (vI (nI k)), some (vI al), some (vI (nI (2 ^ np - 1))), none, none, none, none]) (st' := [vI 0, vI (nI (hmN S k)), vI (nI (stN S k - sn S 8)), vR 818]) rfl ?_
  refine gW_eq (st' := [vI (nI 0), vI (nI (hmN S k)), vI (nI (stN S k - sn S 8)), vR 818]) rfl (by rw [(show (0 : Int32) = nI 0 from rfl)]) rfl ?_
  refine g_cS1 rfl (args := [vI (nI (stN S k - sn S 8)), vI (nI (hmN S k)), vI (nI 0)]) (rest := [vR 818]) rfl rfl rfl (s_306 (d := d + 8) (by omega) (by omega) (by omega)) ?_
  refine g_pure 1 (i' := 39) (lv' := [some (vR 800), some (vI (nI k)), some (vI al), some (vI (nI (2 ^ np - 1))), none, none, none, none]) (st' := [vI 1, vI (nI (192 * (stN S k - sn S 8) + 32 * (hmN S k) + 0)), vR 818]) rfl ?_
  refine g_bast3 rfl (g_A (a := 818) (kd := 3) (n := 77952) rfl (by decide)) (by decide) (show nI (192 * (stN S k - sn S 8) + 32 * (hmN S k) + 0) = nI (192 * (stN S k - sn S 8) + 32 * (hmN S k) + 0) from (rfl : nI (192 * (stN S k - sn S 8) + 32 * (hmN S k) + 0) = nI (192 * (stN S k - sn S 8) + 32 * (hmN S k) + 0))) (by omega) g_nar1 ?_
  refine g_setv (fun s7 es7 => ?_)
  have hSs7 : s7 801 = S := by rw [es7, mu_ne (by decide), hS]
  refine g_pure 2 (i' := 42) (lv' := [some (vR 800), some (vI (nI k)), some (vI al), some (vI (nI (2 ^ np - 1))), some (vI 0), none, none, none]) (st' := []) rfl ?_
  exact o1 s7 es7

theorem b_305_42 {X : Nat × (Nat → Int32)} {d : Nat} {p : Nat → Nat} {sg : Mg} {Q : am_R → Prop} {B : Nat} {S : Nat → Int32} (hI : Inv B S) (hS : sg 801 = S) {np : Nat} {k : Nat} {al : Int32} {t : Nat} {z5 : Option AV} {z6 : Option AV} {z7 : Option AV} (u_k : k ≤ 7) (u_2np1 : 2 ^ np - 1 ≤ 31) (u_t : t ≤ 401)
    (o1 : (400 < t) → Q (gRv p sg (-1)))
    (o2 : (¬ (400 < t)) → gW X (d + 9) k_305 47 [some (vR 800), some (vI (nI k)), some (vI al), some (vI (nI (2 ^ np - 1))), some (vI (nI t)), some (vI 0), z6, z7] [] p sg Q) :
    gW X (d + 9) k_305 42 [some (vR 800), some (vI (nI k)), some (vI al), some (vI (nI (2 ^ np - 1))), some (vI (nI t)), z5, z6, z7] [] p sg Q := by
  have b0 := hI.b0; have b1 := hI.b1; have b2 := hI.b2; have b3 := hI.b3; have b4 := hI.b4; have b5 := hI.b5; have b6 := hI.b6; have b7 := hI.b7; have b8 := hI.b8; have b9 := hI.b9; have b14 := hI.b14
  refine g_pure 2 (i' := 44) (lv' := [some (vR 800), some (vI (nI k)), some (vI al), some (vI (nI (2 ^ np - 1))), some (vI (nI t)), z5, z6, z7]) (st' := [vI 400, vI (nI t)]) rfl ?_
  refine g_if2 (i' := 125) (P := 400 < t) rfl rfl (g_gtN (show nI t = nI t from (rfl : nI t = nI t)) (show 400 = nI 400 from (show (400 : Int32) = nI 400 from rfl)) (by omega) (by omega)) (fun h1 => ?_) (fun h1 => ?_)
  · refine g_pure 1 (i' := 126) (lv' := [some (vR 800), some (vI (nI k)), some (vI al), some (vI (nI (2 ^ np - 1))), some (vI (nI t)), z5, z6, z7]) (st' := [vI (-1)]) rfl ?_
    refine g_iret rfl ?_
    exact o1 h1
  · refine g_pure 2 (i' := 47) (lv' := [some (vR 800), some (vI (nI k)), some (vI al), some (vI (nI (2 ^ np - 1))), some (vI (nI t)), some (vI 0), z6, z7]) (st' := []) rfl ?_
    exact o2 h1

theorem b_305_47 {X : Nat × (Nat → Int32)} {d : Nat} {p : Nat → Nat} {sg : Mg} {Q : am_R → Prop} {B : Nat} {S : Nat → Int32} (hI : Inv B S) (hS : sg 801 = S) {np : Nat} {k : Nat} {al : Int32} {t : Nat} {v : Nat} {z6 : Option AV} {z7 : Option AV} (u_k : k ≤ 7) (u_2np1 : 2 ^ np - 1 ≤ 31) (u_t : t ≤ 400) (u_v : v ≤ 6)
    (o1 : (sn S 0 ≤ v) → gW X (d + 9) k_305 42 [some (vR 800), some (vI (nI k)), some (vI al), some (vI (nI (2 ^ np - 1))), some (vI (nI (t + 1))), some (vI (nI v)), z6, z7] [] p sg Q)
    (o2 : (¬ (sn S 0 ≤ v)) → gW X (d + 9) k_305 53 [some (vR 800), some (vI (nI k)), some (vI al), some (vI (nI (2 ^ np - 1))), some (vI (nI t)), some (vI (nI v)), some (vI 0), z7] [] p sg Q) :
    gW X (d + 9) k_305 47 [some (vR 800), some (vI (nI k)), some (vI al), some (vI (nI (2 ^ np - 1))), some (vI (nI t)), some (vI (nI v)), z6, z7] [] p sg Q := by
  have b0 := hI.b0; have b1 := hI.b1; have b2 := hI.b2; have b3 := hI.b3; have b4 := hI.b4; have b5 := hI.b5; have b6 := hI.b6; have b7 := hI.b7; have b8 := hI.b8; have b9 := hI.b9; have b14 := hI.b14
  refine g_pure 2 (i' := 49) (lv' := [some (vR 800), some (vI (nI k)), some (vI al), some (vI (nI (2 ^ np - 1))), some (vI (nI t)), some (vI (nI v)), z6, z7]) (st' := [vR 800, vI (nI v)]) rfl ?_
  refine g_cV1 rfl (args := [vR 800]) (rest := [vI (nI v)]) rfl rfl rfl (s_195 (d := d + 8) hS) ?_
  refine g_if2 (i' := 123) (P := sn S 0 ≤ v) rfl rfl (g_geN (show nI v = nI v from (rfl : nI v = nI v)) (show S 0 = nI (sn S 0) from (hI.c0)) (by omega) (by omega)) (fun h1 => ?_) (fun h1 => ?_)
  · refine g_pure 2 (i' := 42) (lv' := [some (vR 800), some (vI (nI k)), some (vI al), some (vI (nI (2 ^ np - 1))), some (vI (nI t + 1)), some (vI (nI v)), z6, z7]) (st' := []) rfl ?_
    refine gW_eq (lv' := [some (vR 800), some (vI (nI k)), some (vI al), some (vI (nI (2 ^ np - 1))), some (vI (nI (t + 1))), some (vI (nI v)), z6, z7]) (st' := []) (by rw [(show (nI t + 1) = nI (t + 1) from ((g_add (rfl : nI t = nI t) (show (1 : Int32) = nI 1 from rfl))).trans (congrArg nI (by omega)))]) rfl rfl ?_
    exact o1 h1
  · refine g_pure 2 (i' := 53) (lv' := [some (vR 800), some (vI (nI k)), some (vI al), some (vI (nI (2 ^ np - 1))), some (vI (nI t)), some (vI (nI v)), some (vI 0), z7]) (st' := []) rfl ?_
    exact o2 h1

theorem b_305_53 {X : Nat × (Nat → Int32)} {d : Nat} {p : Nat → Nat} {sg : Mg} {Q : am_R → Prop} {B : Nat} {S : Nat → Int32} (hI : Inv B S) (hS : sg 801 = S) {np : Nat} {C : Nat → Bool} {k : Nat} {al : Int32} {t : Nat} {v : Nat} {s : Nat} {z7 : Option AV} (u_k : k ≤ 7) (u_2np1 : 2 ^ np - 1 ≤ 31) (u_t : t ≤ 400) (u_v : v ≤ 5) (u_s : s ≤ 31) (hc : s < 2 ^ np - 1 → sg 818 (192 * t + 32 * v + s) = (if C (192 * t + 32 * v + s) = true then 1 else 0))
    (o1 : (2 ^ np - 1 ≤ s) → gW X (d + 9) k_305 47 [some (vR 800), some (vI (nI k)), some (vI al), some (vI (nI (2 ^ np - 1))), some (vI (nI t)), some (vI (nI (v + 1))), some (vI (nI s)), z7] [] p sg Q)
    (o2 : (¬ (2 ^ np - 1 ≤ s)) → (C (192 * t + 32 * v + s) = true) → gW X (d + 9) k_305 67 [some (vR 800), some (vI (nI k)), some (vI al), some (vI (nI (2 ^ np - 1))), some (vI (nI t)), some (vI (nI v)), some (vI (nI s)), some (vI 0)] [] p sg Q)
    (o3 : (¬ (2 ^ np - 1 ≤ s)) → (¬ (C (192 * t + 32 * v + s) = true)) → gW X (d + 9) k_305 53 [some (vR 800), some (vI (nI k)), some (vI al), some (vI (nI (2 ^ np - 1))), some (vI (nI t)), some (vI (nI v)), some (vI (nI (s + 1))), z7] [] p sg Q) :
    gW X (d + 9) k_305 53 [some (vR 800), some (vI (nI k)), some (vI al), some (vI (nI (2 ^ np - 1))), some (vI (nI t)), some (vI (nI v)), some (vI (nI s)), z7] [] p sg Q := by
  have b0 := hI.b0; have b1 := hI.b1; have b2 := hI.b2; have b3 := hI.b3; have b4 := hI.b4; have b5 := hI.b5; have b6 := hI.b6; have b7 := hI.b7; have b8 := hI.b8; have b9 := hI.b9; have b14 := hI.b14
  refine g_pure 2 (i' := 55) (lv' := [some (vR 800), some (vI (nI k)), some (vI al), some (vI (nI (2 ^ np - 1))), some (vI (nI t)), some (vI (nI v)), some (vI (nI s)), z7]) (st' := [vI (nI (2 ^ np - 1)), vI (nI s)]) rfl ?_
  refine g_if2 (i' := 121) (P := 2 ^ np - 1 ≤ s) rfl rfl (g_geN (show nI s = nI s from (rfl : nI s = nI s)) (show nI (2 ^ np - 1) = nI (2 ^ np - 1) from (rfl : nI (2 ^ np - 1) = nI (2 ^ np - 1))) (by omega) (by omega)) (fun h1 => ?_) (fun h1 => ?_)
  · refine g_pure 2 (i' := 47) (lv' := [some (vR 800), some (vI (nI k)), some (vI al), some (vI (nI (2 ^ np - 1))), some (vI (nI t)), some (vI (nI v + 1)), some (vI (nI s)), z7]) (st' := []) rfl ?_
    refine gW_eq (lv' := [some (vR 800), some (vI (nI k)), some (vI al), some (vI (nI (2 ^ np - 1))), some (vI (nI t)), some (vI (nI (v + 1))), some (vI (nI s)), z7]) (st' := []) (by rw [(show (nI v + 1) = nI (v + 1) from ((g_add (rfl : nI v = nI v) (show (1 : Int32) = nI 1 from rfl))).trans (congrArg nI (by omega)))]) rfl rfl ?_
    exact o1 h1
  · refine g_pure 5 (i' := 61) (lv' := [some (vR 800), some (vI (nI k)), some (vI al), some (vI (nI (2 ^ np - 1))), some (vI (nI t)), some (vI (nI v)), some (vI (nI s)), z7]) (st' := [vI (nI s), vI (nI v), vI (nI t), vR 818]) rfl ?_
    refine g_cS1 rfl (args := [vI (nI t), vI (nI v), vI (nI s)]) (rest := [vR 818]) rfl rfl rfl (s_306 (d := d + 8) (by omega) (by omega) (by omega)) ?_
    refine g_bald rfl (by decide) (g_A (a := 818) (kd := 3) (n := 77952) rfl (by decide)) (by decide) (show nI (192 * t + 32 * v + s) = nI (192 * t + 32 * v + s) from (rfl : nI (192 * t + 32 * v + s) = nI (192 * t + 32 * v + s))) (by omega) (show _ = (if C (192 * t + 32 * v + s) = true then 1 else 0) from (hc (by omega))) ?_
    refine g_if1 (i' := 65) (P := C (192 * t + 32 * v + s) = true) rfl rfl g_neB (fun h2 => ?_) (fun h2 => ?_)
    · refine g_pure 2 (i' := 67) (lv' := [some (vR 800), some (vI (nI k)), some (vI al), some (vI (nI (2 ^ np - 1))), some (vI (nI t)), some (vI (nI v)), some (vI (nI s)), some (vI 0)]) (st' := []) rfl ?_
      exact o2 h1 h2
    · refine g_pure 3 (i' := 53) (lv' := [some (vR 800), some (vI (nI k)), some (vI al), some (vI (nI (2 ^ np - 1))), some (vI (nI t)), some (vI (nI v)), some (vI (nI s + 1)), z7]) (st' := []) rfl ?_
      refine gW_eq (lv' := [some (vR 800), some (vI (nI k)), some (vI al), some (vI (nI (2 ^ np - 1))), some (vI (nI t)), some (vI (nI v)), some (vI (nI (s + 1))), z7]) (st' := []) (by rw [(show (nI s + 1) = nI (s + 1) from ((g_add (rfl : nI s = nI s) (show (1 : Int32) = nI 1 from rfl))).trans (congrArg nI (by omega)))]) rfl rfl ?_
      exact o3 h1 h2

theorem b_305_67 {X : Nat × (Nat → Int32)} {d : Nat} {p : Nat → Nat} {sg : Mg} {Q : am_R → Prop} {B : Nat} {S : Nat → Int32} (hI : Inv B S) (hS : sg 801 = S) {np : Nat} (u_np : np ≤ 5) (kn_800_28 : sg 800 28 = nI np) {x O : Nat} {pk : Nat → Nat} {k : Nat} {al : Int32} {t : Nat} {v : Nat} {s : Nat} {i : Nat} (u_k : k ≤ 7) (u_2np1 : 2 ^ np - 1 ≤ 31) (u_t : t ≤ 400) (u_v : v ≤ 5) (u_s : s ≤ 31) (u_i : i ≤ 5) (hx : i < np → sg 817 i = nI x) (u_x : x ≤ 7) (hk : PK S O np pk) (hq : pkQ np pk sg) (hn : np ≤ 5)
    (o1 : (np ≤ i) → gW X (d + 9) k_305 118 [some (vR 800), some (vI (nI k)), some (vI al), some (vI (nI (2 ^ np - 1))), some (vI (nI t)), some (vI (nI v)), some (vI (nI s)), some (vI (nI i))] [vI (nI s), vI (nI v), vI (nI t), vI (nI k), vR 800] p sg Q)
    (o2 : (¬ (np ≤ i)) → (¬ (rdB S np pk s i (sn S 8 + t) v = true)) → gW X (d + 9) k_305 67 [some (vR 800), some (vI (nI k)), some (vI al), some (vI (nI (2 ^ np - 1))), some (vI (nI t)), some (vI (nI v)), some (vI (nI s)), some (vI (nI (i + 1)))] [] p sg Q)
    (o3 : (¬ (np ≤ i)) → ((rdB S np pk s i (sn S 8 + t) v = true)) → (¬ s = 0) → (¬ (nI s ||| (1 <<< (nI i &&& 31))) = nI (2 ^ np - 1)) → gW X (d + 9) k_305 110 [some (vR 800), some (vI (nI k)), some (vI al), some (vI (nI (2 ^ np - 1))), some (vI (nI t)), some (vI (nI v)), some (vI (nI s)), some (vI (nI i))] [vI (nI s ||| (1 <<< (nI i &&& 31))), vI (nI v), vI (nI t), vI (nI k), vR 800] p sg Q)
    (o4 : (¬ (np ≤ i)) → ((rdB S np pk s i (sn S 8 + t) v = true)) → (¬ s = 0) → ((nI s ||| (1 <<< (nI i &&& 31))) = nI (2 ^ np - 1)) → Q (gRv p sg (nI t)))
    (o5 : (¬ (np ≤ i)) → ((rdB S np pk s i (sn S 8 + t) v = true)) → (s = 0) → (al < 0) → (¬ (nI s ||| (1 <<< (nI i &&& 31))) = nI (2 ^ np - 1)) → gW X (d + 9) k_305 110 [some (vR 800), some (vI (nI k)), some (vI al), some (vI (nI (2 ^ np - 1))), some (vI (nI t)), some (vI (nI v)), some (vI (nI s)), some (vI (nI i))] [vI (nI s ||| (1 <<< (nI i &&& 31))), vI (nI v), vI (nI t), vI (nI k), vR 800] p sg Q)
    (o6 : (¬ (np ≤ i)) → ((rdB S np pk s i (sn S 8 + t) v = true)) → (s = 0) → (al < 0) → ((nI s ||| (1 <<< (nI i &&& 31))) = nI (2 ^ np - 1)) → Q (gRv p sg (nI t)))
    (o7 : (¬ (np ≤ i)) → ((rdB S np pk s i (sn S 8 + t) v = true)) → (s = 0) → (¬ (al < 0)) → (nI x = al) → (¬ (nI s ||| (1 <<< (nI i &&& 31))) = nI (2 ^ np - 1)) → gW X (d + 9) k_305 110 [some (vR 800), some (vI (nI k)), some (vI al), some (vI (nI (2 ^ np - 1))), some (vI (nI t)), some (vI (nI v)), some (vI (nI s)), some (vI (nI i))] [vI (nI s ||| (1 <<< (nI i &&& 31))), vI (nI v), vI (nI t), vI (nI k), vR 800] p sg Q)
    (o8 : (¬ (np ≤ i)) → ((rdB S np pk s i (sn S 8 + t) v = true)) → (s = 0) → (¬ (al < 0)) → (nI x = al) → ((nI s ||| (1 <<< (nI i &&& 31))) = nI (2 ^ np - 1)) → Q (gRv p sg (nI t)))
    (o9 : (¬ (np ≤ i)) → ((rdB S np pk s i (sn S 8 + t) v = true)) → (s = 0) → (¬ (al < 0)) → (¬ (nI x = al)) → gW X (d + 9) k_305 67 [some (vR 800), some (vI (nI k)), some (vI al), some (vI (nI (2 ^ np - 1))), some (vI (nI t)), some (vI (nI v)), some (vI (nI s)), some (vI (nI (i + 1)))] [] p sg Q) :
    gW X (d + 9) k_305 67 [some (vR 800), some (vI (nI k)), some (vI al), some (vI (nI (2 ^ np - 1))), some (vI (nI t)), some (vI (nI v)), some (vI (nI s)), some (vI (nI i))] [] p sg Q := by
  have b0 := hI.b0; have b1 := hI.b1; have b2 := hI.b2; have b3 := hI.b3; have b4 := hI.b4; have b5 := hI.b5; have b6 := hI.b6; have b7 := hI.b7; have b8 := hI.b8; have b9 := hI.b9; have b14 := hI.b14
  refine g_pure 2 (i' := 69) (lv' := [some (vR 800), some (vI (nI k)), some (vI al), some (vI (nI (2 ^ np - 1))), some (vI (nI t)), some (vI (nI v)), some (vI (nI s)), some (vI (nI i))]) (st' := [vR 800, vI (nI i)]) rfl ?_
  refine g_getI rfl (g_A (a := 800) (kd := 0) (n := 12) rfl (by decide)) (show _ = nI np from kn_800_28) ?_
  refine g_if2 (i' := 113) (P := np ≤ i) rfl rfl (g_geN (show nI i = nI i from (rfl : nI i = nI i)) (show nI np = nI np from (rfl : nI np = nI np)) (by omega) (by omega)) (fun h1 => ?_) (fun h1 => ?_)
  · refine g_pure 5 (i' := 118) (lv' := [some (vR 800), some (vI (nI k)), some (vI al), some (vI (nI (2 ^ np - 1))), some (vI (nI t)), some (vI (nI v)), some (vI (nI s)), some (vI (nI i))]) (st' := [vI (nI s), vI (nI v), vI (nI t), vI (nI k), vR 800]) rfl ?_
    exact o1 h1
  · refine g_pure 4 (i' := 75) (lv' := [some (vR 800), some (vI (nI k)), some (vI al), some (vI (nI (2 ^ np - 1))), some (vI (nI t)), some (vI (nI v)), some (vI (nI s)), some (vI (nI i))]) (st' := [vR 800, vI (nI v), vI (nI i), vR 800]) rfl ?_
    refine g_cV1 rfl (args := [vR 800]) (rest := [vI (nI v), vI (nI i), vR 800]) rfl rfl rfl (s_248 (d := d + 8) hS) ?_
    refine g_pure 3 (i' := 79) (lv' := [some (vR 800), some (vI (nI k)), some (vI al), some (vI (nI (2 ^ np - 1))), some (vI (nI t)), some (vI (nI v)), some (vI (nI s)), some (vI (nI i))]) (st' := [vI (nI s), vI (S 8 + nI t), vI (nI v), vI (nI i), vR 800]) rfl ?_
    refine gW_eq (lv' := [some (vR 800), some (vI (nI k)), some (vI al), some (vI (nI (2 ^ np - 1))), some (vI (nI t)), some (vI (nI v)), some (vI (nI s)), some (vI (nI i))]) (st' := [vI (nI s), vI (nI (sn S 8 + t)), vI (nI v), vI (nI i), vR 800]) rfl (by rw [(show (S 8 + nI t) = nI (sn S 8 + t) from ((g_add (hI.c8) (rfl : nI t = nI t))).trans (congrArg nI (by omega)))]) rfl ?_
    refine g_cV1 rfl (args := [vR 800, vI (nI i), vI (nI v), vI (nI (sn S 8 + t)), vI (nI s)]) (rest := []) rfl rfl rfl (s_307 (d := d + 4) hI hS hk hq hn (by omega) (by omega) (by omega) (by omega)) ?_
    refine g_if1 (i' := 111) (P := ¬ (rdB S np pk s i (sn S 8 + t) v = true)) rfl rfl g_eqB (fun h2 => ?_) (fun h2 => ?_)
    · refine g_pure 2 (i' := 67) (lv' := [some (vR 800), some (vI (nI k)), some (vI al), some (vI (nI (2 ^ np - 1))), some (vI (nI t)), some (vI (nI v)), some (vI (nI s)), some (vI (nI i + 1))]) (st' := []) rfl ?_
      refine gW_eq (lv' := [some (vR 800), some (vI (nI k)), some (vI al), some (vI (nI (2 ^ np - 1))), some (vI (nI t)), some (vI (nI v)), some (vI (nI s)), some (vI (nI (i + 1)))]) (st' := []) (by rw [(show (nI i + 1) = nI (i + 1) from ((g_add (rfl : nI i = nI i) (show (1 : Int32) = nI 1 from rfl))).trans (congrArg nI (by omega)))]) rfl rfl ?_
      exact o2 h1 h2
    · have h2 := Classical.not_not.mp h2
      refine g_pure 1 (i' := 82) (lv' := [some (vR 800), some (vI (nI k)), some (vI al), some (vI (nI (2 ^ np - 1))), some (vI (nI t)), some (vI (nI v)), some (vI (nI s)), some (vI (nI i))]) (st' := [vI (nI s)]) rfl ?_
      refine g_if1 (i' := 92) (P := ¬ s = 0) rfl rfl (g_neN (show nI s = nI s from (rfl : nI s = nI s)) (show 0 = nI 0 from (show (0 : Int32) = nI 0 from rfl)) (by omega) (by omega)) (fun h3 => ?_) (fun h3 => ?_)
      · refine g_pure 6 (i' := 98) (lv' := [some (vR 800), some (vI (nI k)), some (vI al), some (vI (nI (2 ^ np - 1))), some (vI (nI t)), some (vI (nI v)), some (vI (nI s)), some (vI (nI i))]) (st' := [vI (nI (2 ^ np - 1)), vI (nI s ||| (1 <<< (nI i &&& 31)))]) rfl ?_
        refine g_if2 (i' := 101) (P := ¬ (nI s ||| (1 <<< (nI i &&& 31))) = nI (2 ^ np - 1)) rfl rfl Iff.rfl (fun h4 => ?_) (fun h4 => ?_)
        · refine g_pure 9 (i' := 110) (lv' := [some (vR 800), some (vI (nI k)), some (vI al), some (vI (nI (2 ^ np - 1))), some (vI (nI t)), some (vI (nI v)), some (vI (nI s)), some (vI (nI i))]) (st' := [vI (nI s ||| (1 <<< (nI i &&& 31))), vI (nI v), vI (nI t), vI (nI k), vR 800]) rfl ?_
          exact o3 h1 h2 h3 h4
        · have h4 := Classical.not_not.mp h4
          refine g_pure 1 (i' := 100) (lv' := [some (vR 800), some (vI (nI k)), some (vI al), some (vI (nI (2 ^ np - 1))), some (vI (nI t)), some (vI (nI v)), some (vI (nI s)), some (vI (nI i))]) (st' := [vI (nI t)]) rfl ?_
          refine g_iret rfl ?_
          exact o4 h1 h2 h3 h4
      · have h3 := Classical.not_not.mp h3
        refine g_pure 1 (i' := 84) (lv' := [some (vR 800), some (vI (nI k)), some (vI al), some (vI (nI (2 ^ np - 1))), some (vI (nI t)), some (vI (nI v)), some (vI (nI s)), some (vI (nI i))]) (st' := [vI al]) rfl ?_
        refine g_if1 (i' := 92) (P := al < 0) rfl rfl Iff.rfl (fun h5 => ?_) (fun h5 => ?_)
        · refine g_pure 6 (i' := 98) (lv' := [some (vR 800), some (vI (nI k)), some (vI al), some (vI (nI (2 ^ np - 1))), some (vI (nI t)), some (vI (nI v)), some (vI (nI s)), some (vI (nI i))]) (st' := [vI (nI (2 ^ np - 1)), vI (nI s ||| (1 <<< (nI i &&& 31)))]) rfl ?_
          refine g_if2 (i' := 101) (P := ¬ (nI s ||| (1 <<< (nI i &&& 31))) = nI (2 ^ np - 1)) rfl rfl Iff.rfl (fun h6 => ?_) (fun h6 => ?_)
          · refine g_pure 9 (i' := 110) (lv' := [some (vR 800), some (vI (nI k)), some (vI al), some (vI (nI (2 ^ np - 1))), some (vI (nI t)), some (vI (nI v)), some (vI (nI s)), some (vI (nI i))]) (st' := [vI (nI s ||| (1 <<< (nI i &&& 31))), vI (nI v), vI (nI t), vI (nI k), vR 800]) rfl ?_
            exact o5 h1 h2 h3 h5 h6
          · have h6 := Classical.not_not.mp h6
            refine g_pure 1 (i' := 100) (lv' := [some (vR 800), some (vI (nI k)), some (vI al), some (vI (nI (2 ^ np - 1))), some (vI (nI t)), some (vI (nI v)), some (vI (nI s)), some (vI (nI i))]) (st' := [vI (nI t)]) rfl ?_
            refine g_iret rfl ?_
            exact o6 h1 h2 h3 h5 h6
        · refine g_pure 3 (i' := 88) (lv' := [some (vR 800), some (vI (nI k)), some (vI al), some (vI (nI (2 ^ np - 1))), some (vI (nI t)), some (vI (nI v)), some (vI (nI s)), some (vI (nI i))]) (st' := [vI (nI i), vR 817]) rfl ?_
          refine g_ald rfl (g_A (a := 817) (kd := 1) (n := 5) rfl (by decide)) (by decide) (show nI i = nI i from (rfl : nI i = nI i)) (by omega) (show _ = nI x from (hx (by omega))) ?_
          refine g_pure 1 (i' := 90) (lv' := [some (vR 800), some (vI (nI k)), some (vI al), some (vI (nI (2 ^ np - 1))), some (vI (nI t)), some (vI (nI v)), some (vI (nI s)), some (vI (nI i))]) (st' := [vI al, vI (nI x)]) rfl ?_
          refine g_if2 (i' := 92) (P := nI x = al) rfl rfl Iff.rfl (fun h7 => ?_) (fun h7 => ?_)
          · refine g_pure 6 (i' := 98) (lv' := [some (vR 800), some (vI (nI k)), some (vI al), some (vI (nI (2 ^ np - 1))), some (vI (nI t)), some (vI (nI v)), some (vI (nI s)), some (vI (nI i))]) (st' := [vI (nI (2 ^ np - 1)), vI (nI s ||| (1 <<< (nI i &&& 31)))]) rfl ?_
            refine g_if2 (i' := 101) (P := ¬ (nI s ||| (1 <<< (nI i &&& 31))) = nI (2 ^ np - 1)) rfl rfl Iff.rfl (fun h8 => ?_) (fun h8 => ?_)
            · refine g_pure 9 (i' := 110) (lv' := [some (vR 800), some (vI (nI k)), some (vI al), some (vI (nI (2 ^ np - 1))), some (vI (nI t)), some (vI (nI v)), some (vI (nI s)), some (vI (nI i))]) (st' := [vI (nI s ||| (1 <<< (nI i &&& 31))), vI (nI v), vI (nI t), vI (nI k), vR 800]) rfl ?_
              exact o7 h1 h2 h3 h5 h7 h8
            · have h8 := Classical.not_not.mp h8
              refine g_pure 1 (i' := 100) (lv' := [some (vR 800), some (vI (nI k)), some (vI al), some (vI (nI (2 ^ np - 1))), some (vI (nI t)), some (vI (nI v)), some (vI (nI s)), some (vI (nI i))]) (st' := [vI (nI t)]) rfl ?_
              refine g_iret rfl ?_
              exact o8 h1 h2 h3 h5 h7 h8
          · refine g_pure 3 (i' := 67) (lv' := [some (vR 800), some (vI (nI k)), some (vI al), some (vI (nI (2 ^ np - 1))), some (vI (nI t)), some (vI (nI v)), some (vI (nI s)), some (vI (nI i + 1))]) (st' := []) rfl ?_
            refine gW_eq (lv' := [some (vR 800), some (vI (nI k)), some (vI al), some (vI (nI (2 ^ np - 1))), some (vI (nI t)), some (vI (nI v)), some (vI (nI s)), some (vI (nI (i + 1)))]) (st' := []) (by rw [(show (nI i + 1) = nI (i + 1) from ((g_add (rfl : nI i = nI i) (show (1 : Int32) = nI 1 from rfl))).trans (congrArg nI (by omega)))]) rfl rfl ?_
            exact o9 h1 h2 h3 h5 h7

/-- which task may be the first -/
def alF (al : Int32) (q : Nat) : Bool := decide (al < 0 ∨ nI q = al)
theorem scP.mono {S : Nat → Int32} {k t v s m : Nat} {C C' : Nat → Bool} (h : scP S k C t v s m) (g : ∀ i, C i = true → C' i = true) : scP S k C' t v s m := ⟨g _ h.1, fun hb r hr ho => g _ (h.2 hb r hr ho)⟩
/-- what follows with the planned tasks below m -/
def pvK (S : Nat → Int32) (k np : Nat) (pk : Nat → Nat) (al : Int32) (C : Nat → Bool) (t v s m : Nat) : Prop := ∀ i, i < m → RD S np pk s i (sn S 8 + t) v → (s = 0 → alF al (pk i) = true) → ¬ s ||| 2 ^ i = 2 ^ np - 1 ∧ scP S k C t v (s ||| 2 ^ i) (sn S 3)
theorem pvK.mono {S : Nat → Int32} {k np t v s m : Nat} {pk : Nat → Nat} {al : Int32} {C C' : Nat → Bool} (h : pvK S k np pk al C t v s m) (g : ∀ i, C i = true → C' i = true) : pvK S k np pk al C' t v s m := fun i hi h1 h2 => ⟨(h i hi h1 h2).1, (h i hi h1 h2).2.mono g⟩
def pvI (S : Nat → Int32) (k np : Nat) (pk : Nat → Nat) (al : Int32) (C : Nat → Bool) (t v s : Nat) : Prop :=
  (∀ t v s, v < 6 → s < 32 → C (192 * t + 32 * v + s) = true → s < 2 ^ np - 1 ∧ PR S k np pk (alF al) (sn S 8 + t) v s) ∧ C (192 * (stN S k - sn S 8) + 32 * hmN S k + 0) = true ∧
  ∀ t' v' s', v' < sn S 0 → s' < 2 ^ np - 1 → (t' < t ∨ (t' = t ∧ (v' < v ∨ (v' = v ∧ s' < s)))) → C (192 * t' + 32 * v' + s') = true → scP S k C t' v' s' (sn S 3) ∧ pvK S k np pk al C t' v' s' np
section
variable {B : Nat} {S : Nat → Int32} {k np t v s : Nat} {pk : Nat → Nat} {al : Int32} {C C' : Nat → Bool}
theorem pvI.mv (hI : Inv B S) {s0 : Nat} (hn : 2 ^ np - 1 ≤ 31) (h : pvI S k np pk al C t v s) (g : mvP S k C C' t v s0 (sn S 3)) (hv : v < sn S 0) (h0 : s0 < 2 ^ np - 1) (hw : PR S k np pk (alF al) (sn S 8 + t + 1) v s0) (hg : bd S k v (sn S 8 + t) = false → ∀ r, r < sn S 3 → otP S r v → PR S k np pk (alF al) (sn S 8 + t + sn S (177 + 3 * r + 2)) (otN S r v) s0) : pvI S k np pk al C' t v s := by
  have b0 := hI.b0
  obtain ⟨h1, h2, h3⟩ := h
  obtain ⟨g1, g2, g3⟩ := g
  refine ⟨fun t1 v1 s1 hv1 hs1 hc => ?_, g1 _ h2, fun t1 v1 s1 hv1 hs1 hl hc => ?_⟩
  · rcases g3 _ hc with e | e | ⟨hb, r, hr, ho, e⟩
    · exact h1 t1 v1 s1 hv1 hs1 e
    · have e1 : t1 = t + 1 := by omega
      have e2 : v1 = v := by omega
      have e3 : s1 = s0 := by omega
      subst e1 e2 e3
      exact ⟨h0, hw⟩
    · have hu := otN_lt hI hr v
      have e1 : t1 = t + sn S (177 + 3 * r + 2) := by omega
      have e2 : v1 = otN S r v := by omega
      have e3 : s1 = s0 := by omega
      subst e1 e2 e3
      exact ⟨h0, by rw [← Nat.add_assoc]; exact hg hb r hr ho⟩
  · have hc2 : C (192 * t1 + 32 * v1 + s1) = true := by
      rcases g3 _ hc with e | e | ⟨hb, r, hr, ho, e⟩
      · exact e
      · omega
      · have hu := otN_lt hI hr v
        have := (hI.roa hr).2.2.2.1
        omega
    exact ⟨(h3 t1 v1 s1 hv1 hs1 hl hc2).1.mono g1, (h3 t1 v1 s1 hv1 hs1 hl hc2).2.mono g1⟩
theorem pvI.next (h : pvI S k np pk al C t v s) (g : C (192 * t + 32 * v + s) = true → scP S k C t v s (sn S 3) ∧ pvK S k np pk al C t v s np) : pvI S k np pk al C t v (s + 1) := by
  refine ⟨h.1, h.2.1, fun t1 v1 s1 hv1 hs1 hl hc => ?_⟩
  by_cases e : t1 = t ∧ v1 = v ∧ s1 = s
  · obtain ⟨rfl, rfl, rfl⟩ := e
    exact g hc
  · exact h.2.2 t1 v1 s1 hv1 hs1 (by omega) hc
theorem pvI.nextv (h : pvI S k np pk al C t v (2 ^ np - 1)) : pvI S k np pk al C t (v + 1) 0 := ⟨h.1, h.2.1, fun t1 v1 s1 hv1 hs1 hl hc => h.2.2 t1 v1 s1 hv1 hs1 (by omega) hc⟩
theorem pvI.nextt (h : pvI S k np pk al C t (sn S 0) 0) : pvI S k np pk al C (t + 1) 0 0 := ⟨h.1, h.2.1, fun t1 v1 s1 hv1 hs1 hl hc => h.2.2 t1 v1 s1 hv1 hs1 (by omega) hc⟩
/-- nothing is done ahead of here -/
theorem pvI.none (hI : Inv B S) (hk : k < sn S 1) (h0 : 0 < 2 ^ np - 1) (h : pvI S k np pk al C t v s) {t' : Nat} (ht : t' < t) : ¬ PFR S k np pk (alF al) (sn S 8 + t') := by
  obtain ⟨m1, m2, m3, _⟩ := hm_ok hI hk
  obtain ⟨h1, h2, h3⟩ := h
  intro ⟨v1, s1, i, g1, g2, g3, g4, g5⟩
  have nx : ∀ s i T v, s < 2 ^ np - 1 → RN S np pk (alF al) s i T v → s ||| 2 ^ i < 2 ^ np - 1 := fun s i T v hs hd => by
    have h1 := or_lt2 (s := s) (i := i) (np := np) (by omega) hd.1
    have h2 := hd.2.2.2
    omega
  have key := g1 (fun T v s => v < sn S 0 ∧ sn S 8 ≤ T ∧ s < 2 ^ np - 1 ∧ (T ≤ sn S 8 + t' → C (192 * (T - sn S 8) + 32 * v + s) = true)) ⟨m1, m2, h0, fun _ => h2⟩ (fun T v s g => ⟨g.1, by omega, g.2.2.1, fun hT => ?_⟩) (fun T v s r g hb hr ho => ⟨otN_lt hI hr _, by omega, g.2.2.1, fun hT => ?_⟩) (fun T v s i g hd => ⟨g.1, by omega, nx s i T v g.2.2.1 hd, fun hT => ?_⟩) (fun T v s i r g hd hb hr ho => ⟨otN_lt hI hr _, by omega, nx s i T v g.2.2.1 hd, fun hT => ?_⟩)
  · have := (h3 t' v1 s1 key.1 key.2.2.1 (Or.inl ht) (by have := key.2.2.2 (Nat.le_refl _); rwa [show sn S 8 + t' - sn S 8 = t' by omega] at this)).2 i g2 g3 g4
    exact this.1 g5
  · have := (h3 (T - sn S 8) v s g.1 g.2.2.1 (Or.inl (by omega)) (g.2.2.2 (by omega))).1.1
    rw [show T + 1 - sn S 8 = T - sn S 8 + 1 by omega]
    exact this
  · have hl := (hI.roa hr).2.2.2.1
    have := (h3 (T - sn S 8) v s g.1 g.2.2.1 (Or.inl (by omega)) (g.2.2.2 (by omega))).1.2 (by rw [show sn S 8 + (T - sn S 8) = T by omega]; exact hb) r hr ho
    rw [show T + sn S (177 + 3 * r + 2) - sn S 8 = T - sn S 8 + sn S (177 + 3 * r + 2) by omega]
    exact this
  · have := ((h3 (T - sn S 8) v s g.1 g.2.2.1 (Or.inl (by omega)) (g.2.2.2 (by omega))).2 i hd.1 (by rw [show sn S 8 + (T - sn S 8) = T by omega]; exact hd.2.1) hd.2.2.1).2.1
    rw [show T + 1 - sn S 8 = T - sn S 8 + 1 by omega]
    exact this
  · have hl := (hI.roa hr).2.2.2.1
    have := ((h3 (T - sn S 8) v s g.1 g.2.2.1 (Or.inl (by omega)) (g.2.2.2 (by omega))).2 i hd.1 (by rw [show sn S 8 + (T - sn S 8) = T by omega]; exact hd.2.1) hd.2.2.1).2.2 (by rw [show sn S 8 + (T - sn S 8) = T by omega]; exact hb) r hr ho
    rw [show T + sn S (177 + 3 * r + 2) - sn S 8 = T - sn S 8 + sn S (177 + 3 * r + 2) by omega]
    exact this
end

/-- the tasks that can be done at one place and time -/
theorem l_305_67 {X : Nat × (Nat → Int32)} {d : Nat} {p : Nat → Nat} {sg : Mg} {B : Nat} {S : Nat → Int32} (hI : Inv B S) (hS : sg 801 = S) (hA : InvA S) {Q : am_R → Prop} {k np O : Nat} {pk : Nat → Nat} {al : Int32} (hk : PK S O np pk) (hn : np ≤ 5) (hk1 : k < sn S 1) (h31 : 2 ^ np - 1 ≤ 31) {t v s : Nat} {C : Nat → Bool} (hq : pkQ np pk sg) (hC : cnM 818 77952 sg C) (ht : t ≤ 400) (hv : v < sn S 0) (hs : s < 2 ^ np - 1) (hP : pvI S k np pk al C t v s) (hc : C (192 * t + 32 * v + s) = true)
    (xr : ∀ m, SP sg m → PFR S k np pk (alF al) (sn S 8 + t) → Q (gRv p m (nI t)))
    (x : ∀ m C, SP sg m → cnM 818 77952 m C → pvI S k np pk al C t v (s + 1) → gW X (d + 9) k_305 53 [some (vR 800), some (vI (nI k)), some (vI al), some (vI (nI (2 ^ np - 1))), some (vI (nI t)), some (vI (nI v)), some (vI (nI (s + 1))), some (vI (nI np))] [] p m Q) :
    gW X (d + 9) k_305 67 [some (vR 800), some (vI (nI k)), some (vI al), some (vI (nI (2 ^ np - 1))), some (vI (nI t)), some (vI (nI v)), some (vI (nI s)), some (vI (nI 0))] [] p sg Q := by
  have b0 := hI.b0; have b1 := hI.b1; have b8 := hI.b8
  have key := g_upI (P := fun i => ∀ m C, SP sg m → cnM 818 77952 m C → pvI S k np pk al C t v s → C (192 * t + 32 * v + s) = true → pvK S k np pk al C t v s i → gW X (d + 9) k_305 67 [some (vR 800), some (vI (nI k)), some (vI al), some (vI (nI (2 ^ np - 1))), some (vI (nI t)), some (vI (nI v)), some (vI (nI s)), some (vI (nI i))] [] p m Q) (I := fun _ => True) (n := np) (a := 0) (by omega) trivial ?_ ?_
  · exact key sg C (SP.rf _) hC hP hc (fun i hi => absurd hi (Nat.not_lt_zero _))
  · intro i _ hi _ ih m C hm hC hP hc hK
    have ih := ih trivial
    have hPR := (hP.1 t v s (by omega) (by omega) hc).2
    have hx := (hk.1 i hi).1
    have b5 := hI.b5
    have eo : nI s ||| (1 <<< (nI i &&& 31)) = nI (s ||| 2 ^ i) := nI_orbit (by omega)
    have hlt := or_lt2 (s := s) (i := i) (np := np) (by omega) hi
    have ea : nI s ||| (1 <<< (nI i &&& 31)) = nI (2 ^ np - 1) ↔ s ||| 2 ^ i = 2 ^ np - 1 := by
      rw [eo]; exact nI_eq (by omega) (by omega)
    have skip : ¬ (RD S np pk s i (sn S 8 + t) v ∧ (s = 0 → alF al (pk i) = true)) → gW X (d + 9) k_305 67 [some (vR 800), some (vI (nI k)), some (vI al), some (vI (nI (2 ^ np - 1))), some (vI (nI t)), some (vI (nI v)), some (vI (nI s)), some (vI (nI (i + 1)))] [] p m Q := fun h => ih m C hm hC hP hc (fun i2 h2 h3 h4 => by
      by_cases e : i2 = i
      · subst e; exact absurd ⟨h3, h4⟩ h
      · exact hK i2 (by omega) h3 h4)
    have fin : RD S np pk s i (sn S 8 + t) v → (s = 0 → alF al (pk i) = true) → nI s ||| (1 <<< (nI i &&& 31)) = nI (2 ^ np - 1) → Q (gRv p m (nI t)) := fun h1 h2 h3 => xr m hm ⟨v, s, i, hPR, hi, h1, h2, ea.mp h3⟩
    have mv : RD S np pk s i (sn S 8 + t) v → (s = 0 → alF al (pk i) = true) → ¬ nI s ||| (1 <<< (nI i &&& 31)) = nI (2 ^ np - 1) → gW X (d + 9) k_305 110 [some (vR 800), some (vI (nI k)), some (vI al), some (vI (nI (2 ^ np - 1))), some (vI (nI t)), some (vI (nI v)), some (vI (nI s)), some (vI (nI i))] [vI (nI s ||| (1 <<< (nI i &&& 31))), vI (nI v), vI (nI t), vI (nI k), vR 800] p m Q := fun h1 h2 h3 => by
      have h3 : ¬ s ||| 2 ^ i = 2 ^ np - 1 := fun e => h3 (ea.mpr e)
      have hd : RN S np pk (alF al) s i (sn S 8 + t) v := ⟨hi, h1, h2, h3⟩
      rw [eo]
      refine g_cV0E rfl (args := [vR 800, vI (nI k), vI (nI t), vI (nI v), vI (nI (s ||| 2 ^ i))]) (rest := []) rfl rfl rfl (s_309 (d := d) hI (hm.S hS) hA hk1 ht hv (by omega) hC) (fun m2 g => ?_)
      obtain ⟨g1, C', g2, g3⟩ := g
      refine g_pure 2 (i' := 67) (lv' := [some (vR 800), some (vI (nI k)), some (vI al), some (vI (nI (2 ^ np - 1))), some (vI (nI t)), some (vI (nI v)), some (vI (nI s)), some (vI (nI i + 1))]) (st' := []) rfl ?_
      refine gW_eq (lv' := [some (vR 800), some (vI (nI k)), some (vI al), some (vI (nI (2 ^ np - 1))), some (vI (nI t)), some (vI (nI v)), some (vI (nI s)), some (vI (nI (i + 1)))]) (by rw [nI_succ]) rfl rfl ?_
      refine ih m2 C' (hm.tr g1) g2 (hP.mv hI h31 g3 hv (by omega) (hPR.dow hd) (fun hb r hr ho => hPR.dog hd hb hr ho)) (g3.1 _ hc) (fun i2 h4 h5 h6 => ?_)
      by_cases e : i2 = i
      · subst e; exact ⟨h3, g3.2.1⟩
      · exact (hK.mono g3.1) i2 (by omega) h5 h6
    have a1 : ¬ s = 0 → (s = 0 → alF al (pk i) = true) := fun h h2 => absurd h2 h
    have a2 : al < 0 → (s = 0 → alF al (pk i) = true) := fun h _ => decide_eq_true (Or.inl h)
    have a3 : nI (pk i) = al → (s = 0 → alF al (pk i) = true) := fun h _ => decide_eq_true (Or.inr h)
    refine b_305_67 hI (hm.S hS) hn (hq.sp hm).1 (by omega) h31 ht (by omega) (by omega) (by omega) (fun _ => (hq.sp hm).2 i hi) (by omega) hk (hq.sp hm) hn (fun h => by omega) (fun _ h => skip (fun g => h (rdB_t.mpr g.1))) (fun _ h h2 h3 => mv (rdB_t.mp h) (a1 h2) h3) (fun _ h h2 h3 => fin (rdB_t.mp h) (a1 h2) h3) (fun _ h _ h2 h3 => mv (rdB_t.mp h) (a2 h2) h3) (fun _ h _ h2 h3 => fin (rdB_t.mp h) (a2 h2) h3) (fun _ h _ _ h2 h3 => mv (rdB_t.mp h) (a3 h2) h3) (fun _ h _ _ h2 h3 => fin (rdB_t.mp h) (a3 h2) h3) (fun _ h h1 h2 h3 => skip (fun g => (of_decide_eq_true (g.2 h1)).elim h2 h3))
  · intro _ m C hm hC hP hc hK
    have hPR := (hP.1 t v s (by omega) (by omega) hc).2
    refine b_305_67 (x := 0) hI (hm.S hS) hn (hq.sp hm).1 (by omega) h31 ht (by omega) (by omega) hn (fun h => absurd h (Nat.lt_irrefl _)) (by omega) hk (hq.sp hm) hn (fun _ => ?_) (fun h => by omega) (fun h => by omega) (fun h => by omega) (fun h => by omega) (fun h => by omega) (fun h => by omega) (fun h => by omega) (fun h => by omega)
    refine g_cV0E rfl (args := [vR 800, vI (nI k), vI (nI t), vI (nI v), vI (nI s)]) (rest := []) rfl rfl rfl (s_309 (d := d) hI (hm.S hS) hA hk1 ht hv (by omega) hC) (fun m2 g => ?_)
    obtain ⟨g1, C', g2, g3⟩ := g
    refine g_pure 2 (i' := 53) (lv' := [some (vR 800), some (vI (nI k)), some (vI al), some (vI (nI (2 ^ np - 1))), some (vI (nI t)), some (vI (nI v)), some (vI (nI s + 1)), some (vI (nI np))]) (st' := []) rfl ?_
    refine gW_eq (lv' := [some (vR 800), some (vI (nI k)), some (vI al), some (vI (nI (2 ^ np - 1))), some (vI (nI t)), some (vI (nI v)), some (vI (nI (s + 1))), some (vI (nI np))]) (by rw [nI_succ]) rfl rfl ?_
    exact x m2 C' (hm.tr g1) g2 ((hP.mv hI h31 g3 hv hs hPR.wait (fun hb r hr ho => hPR.go hb hr ho)).next (fun _ => ⟨g3.2.1, hK.mono g3.1⟩))
