/-! ALL TALK: the reference, the rest (made by wip/whole/gen63.py) -/
theorem b_268_55 {X : Nat × (Nat → Int32)} {d : Nat} {p : Nat → Nat} {sg : Mg} {Q : am_R → Prop} {B : Nat} {S : Nat → Int32} (hI : Inv B S) (hS : sg 801 = S) {c : Nat} {k : Nat} {f : Nat} {j : Nat} (u_c : c ≤ 100) (u_k : k ≤ 7) (u_f : f ≤ 7) (u_j : j ≤ 8) (q1 : k < sn S 1)
    (o1 : (sn S 1 ≤ j) → gW X (d + 6) k_268 77 [some (vR 800), some (vI (nI c)), some (vI (nI k)), some (vI (nI f)), some (vI (nI j))] [] p sg Q)
    (o2 : (¬ (sn S 1 ≤ j)) → (¬ S (113 + 6 * j) = S (113 + 6 * k)) → gW X (d + 6) k_268 55 [some (vR 800), some (vI (nI c)), some (vI (nI k)), some (vI (nI f)), some (vI (nI (j + 1)))] [] p sg Q)
    (o3 : (¬ (sn S 1 ≤ j)) → (S (113 + 6 * j) = S (113 + 6 * k)) → ((((sg 808 j) >>> ((nI f) &&& 31)) &&& 1) = 1) → gW X (d + 6) k_268 77 [some (vR 800), some (vI (nI c)), some (vI (nI k)), some (vI (nI f)), some (vI (nI j))] [] p sg Q)
    (o4 : (¬ (sn S 1 ≤ j)) → (S (113 + 6 * j) = S (113 + 6 * k)) → (¬ ((((sg 808 j) >>> ((nI f) &&& 31)) &&& 1) = 1)) → gW X (d + 6) k_268 55 [some (vR 800), some (vI (nI c)), some (vI (nI k)), some (vI (nI f)), some (vI (nI (j + 1)))] [] p sg Q) :
    gW X (d + 6) k_268 55 [some (vR 800), some (vI (nI c)), some (vI (nI k)), some (vI (nI f)), some (vI (nI j))] [] p sg Q := by
  have b0 := hI.b0; have b1 := hI.b1; have b2 := hI.b2; have b3 := hI.b3; have b4 := hI.b4; have b5 := hI.b5; have b6 := hI.b6; have b7 := hI.b7; have b8 := hI.b8; have b9 := hI.b9; have b14 := hI.b14
  refine g_pure 2 (i' := 57) (lv' := [some (vR 800), some (vI (nI c)), some (vI (nI k)), some (vI (nI f)), some (vI (nI j))]) (st' := [vR 800, vI (nI j)]) rfl ?_
  refine g_cV1 rfl (args := [vR 800]) (rest := [vI (nI j)]) rfl rfl rfl (s_203 (d := d + 5) hS) ?_
  refine g_if2 (i' := 77) (P := sn S 1 ≤ j) rfl rfl (g_geN (show nI j = nI j from (rfl : nI j = nI j)) (show S 1 = nI (sn S 1) from (hI.c1)) (by omega) (by omega)) (fun h1 => ?_) (fun h1 => ?_)
  · exact o1 h1
  · refine g_pure 3 (i' := 62) (lv' := [some (vR 800), some (vI (nI c)), some (vI (nI k)), some (vI (nI f)), some (vI (nI j))]) (st' := [vI 0, vI (nI j), vR 800]) rfl ?_
    refine gW_eq (st' := [vI (nI 0), vI (nI j), vR 800]) rfl (by rw [(show (0 : Int32) = nI 0 from rfl)]) rfl ?_
    refine g_cV1 rfl (args := [vR 800, vI (nI j), vI (nI 0)]) (rest := []) rfl rfl rfl (s_238 (d := d + 5) hS (by omega) (by omega)) ?_
    refine gW_eq (st' := [vI (S (113 + 6 * j))]) rfl (by rw [show S (113 + 6 * j + 0) = S (113 + 6 * j) from congrArg S (by omega)]) rfl ?_
    refine g_pure 3 (i' := 66) (lv' := [some (vR 800), some (vI (nI c)), some (vI (nI k)), some (vI (nI f)), some (vI (nI j))]) (st' := [vI 0, vI (nI k), vR 800, vI (S (113 + 6 * j))]) rfl ?_
    refine gW_eq (st' := [vI (nI 0), vI (nI k), vR 800, vI (S (113 + 6 * j))]) rfl (by rw [(show (0 : Int32) = nI 0 from rfl)]) rfl ?_
    refine g_cV1 rfl (args := [vR 800, vI (nI k), vI (nI 0)]) (rest := [vI (S (113 + 6 * j))]) rfl rfl rfl (s_238 (d := d + 5) hS (by omega) (by omega)) ?_
    refine gW_eq (st' := [vI (S (113 + 6 * k)), vI (S (113 + 6 * j))]) rfl (by rw [show S (113 + 6 * k + 0) = S (113 + 6 * k) from congrArg S (by omega)]) rfl ?_
    refine g_if2 (i' := 75) (P := ¬ S (113 + 6 * j) = S (113 + 6 * k)) rfl rfl Iff.rfl (fun h2 => ?_) (fun h2 => ?_)
    · refine g_pure 2 (i' := 55) (lv' := [some (vR 800), some (vI (nI c)), some (vI (nI k)), some (vI (nI f)), some (vI (nI j + 1))]) (st' := []) rfl ?_
      refine gW_eq (lv' := [some (vR 800), some (vI (nI c)), some (vI (nI k)), some (vI (nI f)), some (vI (nI (j + 1)))]) (st' := []) (by rw [(show (nI j + 1) = nI (j + 1) from ((g_add (rfl : nI j = nI j) (show (1 : Int32) = nI 1 from rfl))).trans (congrArg nI (by omega)))]) rfl rfl ?_
      exact o2 h1 h2
    · have h2 := Classical.not_not.mp h2
      refine g_pure 3 (i' := 71) (lv' := [some (vR 800), some (vI (nI c)), some (vI (nI k)), some (vI (nI f)), some (vI (nI j))]) (st' := [vI (nI j), vR 808]) rfl ?_
      refine g_ald rfl (g_A (a := 808) (kd := 1) (n := 8) rfl (by decide)) (by decide) (show nI j = nI j from (rfl : nI j = nI j)) (by omega) (show _ = sg 808 j from rfl) ?_
      refine g_pure 1 (i' := 73) (lv' := [some (vR 800), some (vI (nI c)), some (vI (nI k)), some (vI (nI f)), some (vI (nI j))]) (st' := [vI (nI f), vI (sg 808 j)]) rfl ?_
      refine g_cS1 rfl (args := [vI (sg 808 j), vI (nI f)]) (rest := []) rfl rfl rfl (s_201 (d := d + 5) ) ?_
      refine g_if1 (i' := 77) (P := (((sg 808 j) >>> ((nI f) &&& 31)) &&& 1) = 1) rfl rfl g_neB (fun h3 => ?_) (fun h3 => ?_)
      · exact o3 h1 h2 h3
      · refine g_pure 2 (i' := 55) (lv' := [some (vR 800), some (vI (nI c)), some (vI (nI k)), some (vI (nI f)), some (vI (nI j + 1))]) (st' := []) rfl ?_
        refine gW_eq (lv' := [some (vR 800), some (vI (nI c)), some (vI (nI k)), some (vI (nI f)), some (vI (nI (j + 1)))]) (st' := []) (by rw [(show (nI j + 1) = nI (j + 1) from ((g_add (rfl : nI j = nI j) (show (1 : Int32) = nI 1 from rfl))).trans (congrArg nI (by omega)))]) rfl rfl ?_
        exact o4 h1 h2 h3

theorem b_268_77 {X : Nat × (Nat → Int32)} {d : Nat} {p : Nat → Nat} {sg : Mg} {Q : am_R → Prop} {B : Nat} {S : Nat → Int32} (hI : Inv B S) (hS : sg 801 = S) {c : Nat} {k : Nat} {f : Nat} {j : Nat} (u_c : c ≤ 100) (u_k : k ≤ 7) (u_f : f ≤ 7) (u_j : j ≤ 8) (q1 : k < sn S 1)
    (o1 : (sn S 1 ≤ j) → gW X (d + 6) k_268 44 [some (vR 800), some (vI (nI c)), some (vI (nI k)), some (vI (nI (f + 1))), some (vI (nI j))] [] p sg Q)
    (o2 : (¬ (sn S 1 ≤ j)) → gW X (d + 6) k_268 81 [some (vR 800), some (vI (nI c)), some (vI (nI k)), some (vI (nI f)), some (vI (nI j))] [] p sg Q) :
    gW X (d + 6) k_268 77 [some (vR 800), some (vI (nI c)), some (vI (nI k)), some (vI (nI f)), some (vI (nI j))] [] p sg Q := by
  have b0 := hI.b0; have b1 := hI.b1; have b2 := hI.b2; have b3 := hI.b3; have b4 := hI.b4; have b5 := hI.b5; have b6 := hI.b6; have b7 := hI.b7; have b8 := hI.b8; have b9 := hI.b9; have b14 := hI.b14
  refine g_pure 2 (i' := 79) (lv' := [some (vR 800), some (vI (nI c)), some (vI (nI k)), some (vI (nI f)), some (vI (nI j))]) (st' := [vR 800, vI (nI j)]) rfl ?_
  refine g_cV1 rfl (args := [vR 800]) (rest := [vI (nI j)]) rfl rfl rfl (s_203 (d := d + 5) hS) ?_
  refine g_if2 (i' := 93) (P := sn S 1 ≤ j) rfl rfl (g_geN (show nI j = nI j from (rfl : nI j = nI j)) (show S 1 = nI (sn S 1) from (hI.c1)) (by omega) (by omega)) (fun h1 => ?_) (fun h1 => ?_)
  · refine g_pure 2 (i' := 44) (lv' := [some (vR 800), some (vI (nI c)), some (vI (nI k)), some (vI (nI f + 1)), some (vI (nI j))]) (st' := []) rfl ?_
    refine gW_eq (lv' := [some (vR 800), some (vI (nI c)), some (vI (nI k)), some (vI (nI (f + 1))), some (vI (nI j))]) (st' := []) (by rw [(show (nI f + 1) = nI (f + 1) from ((g_add (rfl : nI f = nI f) (show (1 : Int32) = nI 1 from rfl))).trans (congrArg nI (by omega)))]) rfl rfl ?_
    exact o1 h1
  · exact o2 h1

theorem b_268_44v {X : Nat × (Nat → Int32)} {d : Nat} {p : Nat → Nat} {sg : Mg} {Q : am_R → Prop} {B : Nat} {S : Nat → Int32} (hI : Inv B S) (hS : sg 801 = S) {v : Nat} {c : Nat} {k : Nat} {f : Nat} {z4 : Option AV} (u_c : c ≤ 100) (u_k : k ≤ 7) (u_f : f ≤ 8) (q1 : k < sn S 1) (q2 : v < sn S 0) (hv : S (113 + 6 * k) = nI v)
    (o1 : (sn S 2 ≤ f) → gW X (d + 6) k_268 38 [some (vR 800), some (vI (nI c)), some (vI (nI (k + 1))), some (vI (nI f)), z4] [] p sg Q)
    (o2 : (¬ (sn S 2 ≤ f)) → gW X (d + 6) k_268 55 [some (vR 800), some (vI (nI c)), some (vI (nI k)), some (vI (nI f)), some (vI 0)] [] p sg Q) :
    gW X (d + 6) k_268 44 [some (vR 800), some (vI (nI c)), some (vI (nI k)), some (vI (nI f)), z4] [] p sg Q := by
  have b0 := hI.b0; have b1 := hI.b1; have b2 := hI.b2; have b3 := hI.b3; have b4 := hI.b4; have b5 := hI.b5; have b6 := hI.b6; have b7 := hI.b7; have b8 := hI.b8; have b9 := hI.b9; have b14 := hI.b14
  refine g_pure 2 (i' := 46) (lv' := [some (vR 800), some (vI (nI c)), some (vI (nI k)), some (vI (nI f)), z4]) (st' := [vR 800, vI (nI f)]) rfl ?_
  refine g_cV1 rfl (args := [vR 800]) (rest := [vI (nI f)]) rfl rfl rfl (s_207 (d := d + 5) hS) ?_
  refine g_if2 (i' := 95) (P := sn S 2 ≤ f) rfl rfl (g_geN (show nI f = nI f from (rfl : nI f = nI f)) (show S 2 = nI (sn S 2) from (hI.c2)) (by omega) (by omega)) (fun h1 => ?_) (fun h1 => ?_)
  · refine g_pure 2 (i' := 38) (lv' := [some (vR 800), some (vI (nI c)), some (vI (nI k + 1)), some (vI (nI f)), z4]) (st' := []) rfl ?_
    refine gW_eq (lv' := [some (vR 800), some (vI (nI c)), some (vI (nI (k + 1))), some (vI (nI f)), z4]) (st' := []) (by rw [(show (nI k + 1) = nI (k + 1) from ((g_add (rfl : nI k = nI k) (show (1 : Int32) = nI 1 from rfl))).trans (congrArg nI (by omega)))]) rfl rfl ?_
    exact o1 h1
  · refine g_pure 3 (i' := 51) (lv' := [some (vR 800), some (vI (nI c)), some (vI (nI k)), some (vI (nI f)), z4]) (st' := [vI 0, vI (nI k), vR 800]) rfl ?_
    refine gW_eq (st' := [vI (nI 0), vI (nI k), vR 800]) rfl (by rw [(show (0 : Int32) = nI 0 from rfl)]) rfl ?_
    refine g_cV1 rfl (args := [vR 800, vI (nI k), vI (nI 0)]) (rest := []) rfl rfl rfl (s_238 (d := d + 5) hS (by omega) (by omega)) ?_
    refine gW_eq (st' := [vI (S (113 + 6 * k))]) rfl (by rw [show S (113 + 6 * k + 0) = S (113 + 6 * k) from congrArg S (by omega)]) rfl ?_
    refine gW_eq (st' := [vI (nI v)]) rfl (by rw [show S (113 + 6 * k) = nI v from hv]) rfl ?_
    refine g_if1 (i' := 95) (P := v < 0) rfl rfl (g_ltN (show nI v = nI v from (rfl : nI v = nI v)) (show 0 = nI 0 from (show (0 : Int32) = nI 0 from rfl)) (by omega) (by omega)) (fun h2 => absurd h2 (by omega)) (fun _ => ?_)
    refine g_pure 2 (i' := 55) (lv' := [some (vR 800), some (vI (nI c)), some (vI (nI k)), some (vI (nI f)), some (vI 0)]) (st' := []) rfl ?_
    exact o2 h1

theorem b_268_44x {X : Nat × (Nat → Int32)} {d : Nat} {p : Nat → Nat} {sg : Mg} {Q : am_R → Prop} {B : Nat} {S : Nat → Int32} (hI : Inv B S) (hS : sg 801 = S) {c : Nat} {k : Nat} {f : Nat} {z4 : Option AV} (u_c : c ≤ 100) (u_k : k ≤ 7) (u_f : f ≤ 8) (q1 : k < sn S 1) (hv : S (113 + 6 * k) = -1)
    (o1 : (sn S 2 ≤ f) → gW X (d + 6) k_268 38 [some (vR 800), some (vI (nI c)), some (vI (nI (k + 1))), some (vI (nI f)), z4] [] p sg Q)
    (o2 : (¬ (sn S 2 ≤ f)) → gW X (d + 6) k_268 38 [some (vR 800), some (vI (nI c)), some (vI (nI (k + 1))), some (vI (nI f)), z4] [] p sg Q) :
    gW X (d + 6) k_268 44 [some (vR 800), some (vI (nI c)), some (vI (nI k)), some (vI (nI f)), z4] [] p sg Q := by
  have b0 := hI.b0; have b1 := hI.b1; have b2 := hI.b2; have b3 := hI.b3; have b4 := hI.b4; have b5 := hI.b5; have b6 := hI.b6; have b7 := hI.b7; have b8 := hI.b8; have b9 := hI.b9; have b14 := hI.b14
  refine g_pure 2 (i' := 46) (lv' := [some (vR 800), some (vI (nI c)), some (vI (nI k)), some (vI (nI f)), z4]) (st' := [vR 800, vI (nI f)]) rfl ?_
  refine g_cV1 rfl (args := [vR 800]) (rest := [vI (nI f)]) rfl rfl rfl (s_207 (d := d + 5) hS) ?_
  refine g_if2 (i' := 95) (P := sn S 2 ≤ f) rfl rfl (g_geN (show nI f = nI f from (rfl : nI f = nI f)) (show S 2 = nI (sn S 2) from (hI.c2)) (by omega) (by omega)) (fun h1 => ?_) (fun h1 => ?_)
  · refine g_pure 2 (i' := 38) (lv' := [some (vR 800), some (vI (nI c)), some (vI (nI k + 1)), some (vI (nI f)), z4]) (st' := []) rfl ?_
    refine gW_eq (lv' := [some (vR 800), some (vI (nI c)), some (vI (nI (k + 1))), some (vI (nI f)), z4]) (st' := []) (by rw [(show (nI k + 1) = nI (k + 1) from ((g_add (rfl : nI k = nI k) (show (1 : Int32) = nI 1 from rfl))).trans (congrArg nI (by omega)))]) rfl rfl ?_
    exact o1 h1
  · refine g_pure 3 (i' := 51) (lv' := [some (vR 800), some (vI (nI c)), some (vI (nI k)), some (vI (nI f)), z4]) (st' := [vI 0, vI (nI k), vR 800]) rfl ?_
    refine gW_eq (st' := [vI (nI 0), vI (nI k), vR 800]) rfl (by rw [(show (0 : Int32) = nI 0 from rfl)]) rfl ?_
    refine g_cV1 rfl (args := [vR 800, vI (nI k), vI (nI 0)]) (rest := []) rfl rfl rfl (s_238 (d := d + 5) hS (by omega) (by omega)) ?_
    refine gW_eq (st' := [vI (S (113 + 6 * k))]) rfl (by rw [show S (113 + 6 * k + 0) = S (113 + 6 * k) from congrArg S (by omega)]) rfl ?_
    refine gW_eq (st' := [vI (-1)]) rfl (by rw [show S (113 + 6 * k) = (-1) from hv]) rfl ?_
    refine g_if1 (i' := 95) (P := ((-1) : Int32) < 0) rfl rfl Iff.rfl (fun _ => ?_) (fun h2 => absurd (by decide) h2)
    refine g_pure 2 (i' := 38) (lv' := [some (vR 800), some (vI (nI c)), some (vI (nI k + 1)), some (vI (nI f)), z4]) (st' := []) rfl ?_
    refine gW_eq (lv' := [some (vR 800), some (vI (nI c)), some (vI (nI (k + 1))), some (vI (nI f)), z4]) (st' := []) (by rw [(show (nI k + 1) = nI (k + 1) from ((g_add (rfl : nI k = nI k) (show (1 : Int32) = nI 1 from rfl))).trans (congrArg nI (by omega)))]) rfl rfl ?_
    exact o2 h1

theorem b_268_38 {X : Nat × (Nat → Int32)} {d : Nat} {p : Nat → Nat} {sg : Mg} {Q : am_R → Prop} {B : Nat} {S : Nat → Int32} (hI : Inv B S) (hS : sg 801 = S) {c : Nat} {k : Nat} {z3 : Option AV} {z4 : Option AV} (u_c : c ≤ 100) (u_k : k ≤ 8)
    (o1 : (sn S 1 ≤ k) → Q (gRv p sg (nI c)))
    (o2 : (¬ (sn S 1 ≤ k)) → gW X (d + 6) k_268 44 [some (vR 800), some (vI (nI c)), some (vI (nI k)), some (vI 0), z4] [] p sg Q) :
    gW X (d + 6) k_268 38 [some (vR 800), some (vI (nI c)), some (vI (nI k)), z3, z4] [] p sg Q := by
  have b0 := hI.b0; have b1 := hI.b1; have b2 := hI.b2; have b3 := hI.b3; have b4 := hI.b4; have b5 := hI.b5; have b6 := hI.b6; have b7 := hI.b7; have b8 := hI.b8; have b9 := hI.b9; have b14 := hI.b14
  refine g_pure 2 (i' := 40) (lv' := [some (vR 800), some (vI (nI c)), some (vI (nI k)), z3, z4]) (st' := [vR 800, vI (nI k)]) rfl ?_
  refine g_cV1 rfl (args := [vR 800]) (rest := [vI (nI k)]) rfl rfl rfl (s_203 (d := d + 5) hS) ?_
  refine g_if2 (i' := 97) (P := sn S 1 ≤ k) rfl rfl (g_geN (show nI k = nI k from (rfl : nI k = nI k)) (show S 1 = nI (sn S 1) from (hI.c1)) (by omega) (by omega)) (fun h1 => ?_) (fun h1 => ?_)
  · refine g_pure 1 (i' := 98) (lv' := [some (vR 800), some (vI (nI c)), some (vI (nI k)), z3, z4]) (st' := [vI (nI c)]) rfl ?_
    refine g_iret rfl ?_
    exact o1 h1
  · refine g_pure 2 (i' := 44) (lv' := [some (vR 800), some (vI (nI c)), some (vI (nI k)), some (vI 0), z4]) (st' := []) rfl ?_
    exact o2 h1

theorem heN_le (S : Nat → Int32) (tl : Nat → Nat) (k f : Nat) : heN S tl k f ≤ 1 := by
  unfold heN
  split
  · split <;> omega
  · omega
theorem l_268_55 {X : Nat × (Nat → Int32)} {d : Nat} {p : Nat → Nat} {sg : Mg} {B : Nat} {S : Nat → Int32} (hI : Inv B S) (hS : sg 801 = S) {Q : am_R → Prop} {tl : Nat → Nat} {c k f : Nat} (hc : c ≤ 99) (hk : k < sn S 1) (hf : f ≤ 7) (htl : ∀ j, j < sn S 1 → sg 808 j = nI (tl j) ∧ tl j < 256)
    (x : ∀ z4, gW X (d + 6) k_268 44 [some (vR 800), some (vI (nI (c + heN S tl k f))), some (vI (nI k)), some (vI (nI (f + 1))), z4] [] p (va_up sg 801 (heS S tl k f)) Q) :
    gW X (d + 6) k_268 55 [some (vR 800), some (vI (nI c)), some (vI (nI k)), some (vI (nI f)), some (vI (nI 0))] [] p sg Q := by
  have b1 := hI.b1
  refine g_upI (P := fun j => gW X (d + 6) k_268 55 [some (vR 800), some (vI (nI c)), some (vI (nI k)), some (vI (nI f)), some (vI (nI j))] [] p sg Q) (I := fun j => ∀ i, i < j → teP S tl k f i = false) (n := sn S 1) (a := 0) (by omega) none_below (fun j _ hj hi ih => ?_) (fun hi => ?_)
  · obtain ⟨t1, t2⟩ := htl j hj
    refine b_268_55 hI hS (by omega) (by omega) hf (by omega) hk (fun h => by omega) (fun _ h => ?_) (fun _ h hb => ?_) (fun _ h hb => ?_)
    · refine ih (not_below hi ?_)
      unfold teP
      rw [decide_eq_false h, Bool.false_and]
    · rw [t1, nI_bit1 (by omega) (by omega)] at hb
      have hP : teP S tl k f j = true := by
        unfold teP
        rw [decide_eq_true h, hb]
        rfl
      have hT : teN S tl k f = j := fnd_eq (Nat.zero_le _) (by omega) hP (fun i _ h => hi i h)
      refine b_268_77 hI hS (by omega) (by omega) hf (by omega) hk (fun h => by omega) (fun _ => ?_)
      have e1 : heS S tl k f = lrS S k f j := by unfold heS; rw [hT, if_pos hj]
      have e2 : heN S tl k f = if (sn S (113 + 6 * k + 5)).testBit f = true then 0 else 1 := by unfold heN; rw [hT, if_pos hj]
      rw [e1, e2] at x
      refine g_pure 5 (i' := 86) (lv' := [some (vR 800), some (vI (nI c)), some (vI (nI k)), some (vI (nI f)), some (vI (nI j))]) (st' := [vI (nI j), vI (nI f), vI (nI k), vR 800, vI (nI c)]) rfl ?_
      refine g_cV1 rfl (args := [vR 800, vI (nI k), vI (nI f), vI (nI j)]) (rest := [vI (nI c)]) rfl rfl rfl (s_261 (d := d + 4) hI hS hk hf (by omega)) ?_
      have fin : ∀ n y, y = nI c + nI n → n = (if (sn S (113 + 6 * k + 5)).testBit f = true then 0 else 1) → gW X (d + 6) k_268 92 [some (vR 800), some (vI (nI c)), some (vI (nI k)), some (vI (nI f)), some (vI (nI j))] [vI y] p (va_up sg 801 (lrS S k f j)) Q := by
        intro n y hy hn
        refine g_pure 3 (i' := 44) (lv' := [some (vR 800), some (vI y), some (vI (nI k)), some (vI (nI f + 1)), some (vI (nI j))]) (st' := []) rfl ?_
        refine gW_eq (lv' := [some (vR 800), some (vI (nI (c + n))), some (vI (nI k)), some (vI (nI (f + 1))), some (vI (nI j))]) (by rw [nI_succ, hy, nI_add]) rfl rfl ?_
        rw [hn]
        exact x _
      refine g_if1 (i' := 90) (P := (sn S (113 + 6 * k + 5)).testBit f = true) rfl rfl ?_ (fun hb => ?_) (fun hb => ?_)
      · show (if (sn S (113 + 6 * k + 5)).testBit f = true then (0 : Int32) else 1) = 0 ↔ _
        by_cases hb : (sn S (113 + 6 * k + 5)).testBit f = true
        · rw [if_pos hb]; exact ⟨fun _ => hb, fun _ => rfl⟩
        · rw [if_neg hb]; exact ⟨fun h => absurd h (by decide), fun h => absurd h hb⟩
      · refine g_pure 2 (i' := 92) (lv' := [some (vR 800), some (vI (nI c)), some (vI (nI k)), some (vI (nI f)), some (vI (nI j))]) (st' := [vI (nI c + 0)]) rfl ?_
        exact fin 0 _ rfl (by rw [if_pos hb])
      · refine g_pure 3 (i' := 92) (lv' := [some (vR 800), some (vI (nI c)), some (vI (nI k)), some (vI (nI f)), some (vI (nI j))]) (st' := [vI (nI c + 1)]) rfl ?_
        exact fin 1 _ rfl (by rw [if_neg hb])
    · rw [t1, nI_bit1 (by omega) (by omega)] at hb
      refine ih (not_below hi ?_)
      unfold teP
      rw [show (tl j).testBit f = false by simpa using hb, Bool.and_false]
  · have hT : ¬ teN S tl k f < sn S 1 := by
      intro h
      unfold teN at h
      have := (fnd_spec (teP S tl k f) (sn S 1) 0).2.2.2 (by omega)
      rw [hi _ h] at this
      cases this
    refine b_268_55 hI hS (by omega) (by omega) hf (by omega) hk (fun _ => ?_) (fun h => by omega) (fun h => by omega) (fun h => by omega)
    refine b_268_77 hI hS (by omega) (by omega) hf (by omega) hk (fun _ => ?_) (fun h => by omega)
    have x := x (some (vI (nI (sn S 1))))
    unfold heS heN at x
    rw [if_neg hT, if_neg hT, Nat.add_zero, ← hS, va_up_same, hS] at x
    exact x
