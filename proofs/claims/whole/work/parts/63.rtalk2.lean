/-! ALL TALK: the reference, the rest (made by wip/whole/gen63.py) -/
theorem b_268_55 {X : Nat × (Nat → Int32)} {d : Nat} {p : Nat → Nat} {sg : Mg} {Q : am_R → Prop} {B : Nat} {S : Nat → Int32} (hI : Inv B S) (hS : sg 801 = S) {c : Nat} {k : Nat} {f : Nat} {j : Nat} (u_c : c ≤ 100) (u_k : k ≤ 7) (u_f : f ≤ 7) (u_j : j ≤ 8) (q1 : k < sn S 1)
    (o1 : (sn S 1 ≤ j) → gW X (d + 6) k_268 77 [some (vR 800), some (vI (nI c)), some (vI (nI k)), some (vI (nI f)), some (vI (nI j))] [] p sg Q)
    (o2 : (¬ (sn S 1 ≤ j)) → (¬ S (113 + 6 * j) = S (113 + 6 * k)) → gW X (d + 6) k_268 55 [some (vR 800), some (vI (nI c)), some (vI (nI k)), some (vI (nI f)), some (vI (nI (j + 1)))] [] p sg Q)
    (o3 : (¬ (sn S 1 ≤ j)) → (S (113 + 6 * j) = S (113 + 6 * k)) → ((((sg 808 j) >>> ((nI f) &&& 31)) &&& 1) = 1) → gW X (d + 6) k_268 77 [some (vR 800), some (vI (nI c)), some (vI (nI k)), some (vI (nI f)), some (vI (nI j))] [] p sg Q)
    (o4 : (¬ (sn S 1 ≤ j)) → (S (113 + 6 * j) = S (113 + 6 * k)) → (¬ ((((sg 808 j) >>> ((nI f) &&& 31)) &&& 1) = 1)) → gW X (d + 6) k_268 55 [some (vR 800), some (vI (nI c)), some (vI (nI k)), some (vI (nI f)), some (vI (nI (j + 1)))] [] p sg Q) :
    gW X (d + 6) k_268 55 [some (vR 800), some (vI (nI c)), some (vI (nI k)), some (vI (nI f)), some (vI (nI j))] [] p sg Q := by
  have b0 := hI.b0; have b1 := hI.b1; have b2 := hI.b2; have b3 := hI.b3; have b4 := hI.b4; have b5 := hI.b5; have b6 := hI.b6; have b7 := hI.b7; have b8 := hI.b8; have b9 := hI.b9; have b14 := hI.b14
  refine g_pure 2 (i' := 57) (lv' := [some (vR 800), some (vI (nI c)), some (vI (nI k)), some (vI (nI f)), some (vI (nI j))]) (st' := [vR 800, vI (nI j)]) rfl ?_
  refine g_cV1 rfl (args := [vR 800]) (rest := [vI (nI j)]) rfl rfl rfl (s_203 (d := d + 5) hS) ?_
  refine g_if2 (i' := 77) (P := sn S 1 ≤ j) rfl rfl (g_geN (show nI j = nI j from (rfl : nI j = nI j)) (show S 1 = nI (sn S 1) from (hI.c1)) (by omega) (by omega)) (fun h1 => ?_) (fun h1 => ?_)
  · exact o1 h1
  · refine g_pure 3 (i' := 62) (lv' := [some (vR 800), some (vI (nI c)), some (vI (nI k)), some (vI (nI f)), some (vI (nI j))]) (st' := [vI 0, vI (nI j), vR 800]) rfl ?_
    refine gW_eq (st' := [vI (nI 0), vI (nI j), vR 800]) rfl (by rw [(show (0 : Int32) = nI 0 from rfl)]) rfl ?_
    refine g_cV1 rfl (args := [vR 800, vI (nI j), vI (nI 0)]) (rest := []) rfl rfl rfl (s_238 (d := d + 5) hS (by omega) (by omega)) ?_
    refine gW_eq (st' := [vI (S (113 + 6 * j))]) rfl (by rw [show S (113 + 6 * j + 0) = S (113 + 6 * j) from congrArg S (by omega)]) rfl ?_
    refine g_pure 3 (i' := 66) (lv' := [some (vR 800), some (vI (nI c)), some (vI (nI k)), some (vI (nI f)), some (vI (nI j))]) (st' := [vI 0, vI (nI k), vR 800, vI (S (113 + 6 * j))]) rfl ?_
    refine gW_eq (st' := [vI (nI 0), vI (nI k), vR 800, vI (S (113 + 6 * j))]) rfl (by rw [(show (0 : Int32) = nI 0 from rfl)]) rfl ?_
    refine g_cV1 rfl (args := [vR 800, vI (nI k), vI (nI 0)]) (rest := [vI (S (113 + 6 * j))]) rfl rfl rfl (s_238 (d := d + 5) hS (by omega) (by omega)) ?_
    refine gW_eq (st' := [vI (S (113 + 6 * k)), vI (S (113 + 6 * j))]) rfl (by rw [show S (113 + 6 * k + 0) = S (113 + 6 * k) from congrArg S (by omega)]) rfl ?_
    refine g_if2 (i' := 75) (P := ¬ S (113 + 6 * j) = S (113 + 6 * k)) rfl rfl Iff.rfl (fun h2 => ?_) (fun h2 => ?_)
    · refine g_pure 2 (i' := 55) (lv' := [some (vR 800), some (vI (nI c)), some (vI (nI k)), some (vI (nI f)), some (vI (nI j + 1))]) (st' := []) rfl ?_
      refine gW_eq (lv' := [some (vR 800), some (vI (nI c)), some (vI (nI k)), some (vI (nI f)), some (vI (nI (j + 1)))]) (st' := []) (by rw [(show (nI j + 1) = nI (j + 1) from ((g_add (rfl : nI j = nI j) (show (1 : Int32) = nI 1 from rfl))).trans (congrArg nI (by omega)))]) rfl rfl ?_
      exact o2 h1 h2
    · have h2 := Classical.not_not.mp h2
      refine g_pure 3 (i' := 71) (lv' := [some (vR 800), some (vI (nI c)), some (vI (nI k)), some (vI (nI f)), some (vI (nI j))]) (st' := [vI (nI j), vR 808]) rfl ?_
      refine g_ald rfl (g_A (a := 808) (kd := 1) (n := 8) rfl (by decide)) (by decide) (show nI j = nI j from (rfl : nI j = nI j)) (by omega) (show _ = sg 808 j from rfl) ?_
      refine g_pure 1 (i' := 73) (lv' := [some (vR 800), some (vI (nI c)), some (vI (nI k)), some (vI (nI f)), some (vI (nI j))]) (st' := [vI (nI f), vI (sg 808 j)]) rfl ?_
      refine g_cS1 rfl (args := [vI (sg 808 j), vI (nI f)]) (rest := []) rfl rfl rfl (s_201 (d := d + 5) ) ?_
      refine g_if1 (i' := 77) (P := (((sg 808 j) >>> ((nI f) &&& 31)) &&& 1) = 1) rfl rfl g_neB (fun h3 => ?_) (fun h3 => ?_)
      · exact o3 h1 h2 h3
      · refine g_pure 2 (i' := 55) (lv' := [some (vR 800), some (vI (nI c)), some (vI (nI k)), some (vI (nI f)), some (vI (nI j + 1))]) (st' := []) rfl ?_
        refine gW_eq (lv' := [some (vR 800), some (vI (nI c)), some (vI (nI k)), some (vI (nI f)), some (vI (nI (j + 1)))]) (st' := []) (by rw [(show (nI j + 1) = nI (j + 1) from ((g_add (rfl : nI j = nI j) (show (1 : Int32) = nI 1 from rfl))).trans (congrArg nI (by omega)))]) rfl rfl ?_
        exact o4 h1 h2 h3

theorem b_268_77 {X : Nat × (Nat → Int32)} {d : Nat} {p : Nat → Nat} {sg : Mg} {Q : am_R → Prop} {B : Nat} {S : Nat → Int32} (hI : Inv B S) (hS : sg 801 = S) {c : Nat} {k : Nat} {f : Nat} {j : Nat} (u_c : c ≤ 100) (u_k : k ≤ 7) (u_f : f ≤ 7) (u_j : j ≤ 8) (q1 : k < sn S 1)
    (o1 : (sn S 1 ≤ j) → gW X (d + 6) k_268 44 [some (vR 800), some (vI (nI c)), some (vI (nI k)), some (vI (nI (f + 1))), some (vI (nI j))] [] p sg Q)
    (o2 : (¬ (sn S 1 ≤ j)) → gW X (d + 6) k_268 81 [some (vR 800), some (vI (nI c)), some (vI (nI k)), some (vI (nI f)), some (vI (nI j))] [] p sg Q) :
    gW X (d + 6) k_268 77 [some (vR 800), some (vI (nI c)), some (vI (nI k)), some (vI (nI f)), some (vI (nI j))] [] p sg Q := by
  have b0 := hI.b0; have b1 := hI.b1; have b2 := hI.b2; have b3 := hI.b3; have b4 := hI.b4; have b5 := hI.b5; have b6 := hI.b6; have b7 := hI.b7; have b8 := hI.b8; have b9 := hI.b9; have b14 := hI.b14
  refine g_pure 2 (i' := 79) (lv' := [some (vR 800), some (vI (nI c)), some (vI (nI k)), some (vI (nI f)), some (vI (nI j))]) (st' := [vR 800, vI (nI j)]) rfl ?_
  refine g_cV1 rfl (args := [vR 800]) (rest := [vI (nI j)]) rfl rfl rfl (s_203 (d := d + 5) hS) ?_
  refine g_if2 (i' := 93) (P := sn S 1 ≤ j) rfl rfl (g_geN (show nI j = nI j from (rfl : nI j = nI j)) (show S 1 = nI (sn S 1) from (hI.c1)) (by omega) (by omega)) (fun h1 => ?_) (fun h1 => ?_)
  · refine g_pure 2 (i' := 44) (lv' := [some (vR 800), some (vI (nI c)), some (vI (nI k)), some (vI (nI f + 1)), some (vI (nI j))]) (st' := []) rfl ?_
    refine gW_eq (lv' := [some (vR 800), some (vI (nI c)), some (vI (nI k)), some (vI (nI (f + 1))), some (vI (nI j))]) (st' := []) (by rw [(show (nI f + 1) = nI (f + 1) from ((g_add (rfl : nI f = nI f) (show (1 : Int32) = nI 1 from rfl))).trans (congrArg nI (by omega)))]) rfl rfl ?_
    exact o1 h1
  · exact o2 h1

theorem b_268_44v {X : Nat × (Nat → Int32)} {d : Nat} {p : Nat → Nat} {sg : Mg} {Q : am_R → Prop} {B : Nat} {S : Nat → Int32} (hI : Inv B S) (hS : sg 801 = S) {v : Nat} {c : Nat} {k : Nat} {f : Nat} {z4 : Option AV} (u_c : c ≤ 100) (u_k : k ≤ 7) (u_f : f ≤ 8) (q1 : k < sn S 1) (q2 : v < sn S 0) (hv : S (113 + 6 * k) = nI v)
    (o1 : (sn S 2 ≤ f) → gW X (d + 6) k_268 38 [some (vR 800), some (vI (nI c)), some (vI (nI (k + 1))), some (vI (nI f)), z4] [] p sg Q)
    (o2 : (¬ (sn S 2 ≤ f)) → gW X (d + 6) k_268 55 [some (vR 800), some (vI (nI c)), some (vI (nI k)), some (vI (nI f)), some (vI 0)] [] p sg Q) :
    gW X (d + 6) k_268 44 [some (vR 800), some (vI (nI c)), some (vI (nI k)), some (vI (nI f)), z4] [] p sg Q := by
  have b0 := hI.b0; have b1 := hI.b1; have b2 := hI.b2; have b3 := hI.b3; have b4 := hI.b4; have b5 := hI.b5; have b6 := hI.b6; have b7 := hI.b7; have b8 := hI.b8; have b9 := hI.b9; have b14 := hI.b14
  refine g_pure 2 (i' := 46) (lv' := [some (vR 800), some (vI (nI c)), some (vI (nI k)), some (vI (nI f)), z4]) (st' := [vR 800, vI (nI f)]) rfl ?_
  refine g_cV1 rfl (args := [vR 800]) (rest := [vI (nI f)]) rfl rfl rfl (s_207 (d := d + 5) hS) ?_
  refine g_if2 (i' := 95) (P := sn S 2 ≤ f) rfl rfl (g_geN (show nI f = nI f from (rfl : nI f = nI f)) (show S 2 = nI (sn S 2) from (hI.c2)) (by omega) (by omega)) (fun h1 => ?_) (fun h1 => ?_)
  · refine g_pure 2 (i' := 38) (lv' := [some (vR 800), some (vI (nI c)), some (vI (nI k + 1)), some (vI (nI f)), z4]) (st' := []) rfl ?_
    refine gW_eq (lv' := [some (vR 800), some (vI (nI c)), some (vI (nI (k + 1))), some (vI (nI f)), z4]) (st' := []) (by rw [(show (nI k + 1) = nI (k + 1) from ((g_add (rfl : nI k = nI k) (show (1 : Int32) = nI 1 from rfl))).trans (congrArg nI (by omega)))]) rfl rfl ?_
    exact o1 h1
  · refine g_pure 3 (i' := 51) (lv' := [some (vR 800), some (vI (nI c)), some (vI (nI k)), some (vI (nI f)), z4]) (st' := [vI 0, vI (nI k), vR 800]) rfl ?_
    refine gW_eq (st' := [vI (nI 0), vI (nI k), vR 800]) rfl (by rw [(show (0 : Int32) = nI 0 from rfl)]) rfl ?_
    refine g_cV1 rfl (args := [vR 800, vI (nI k), vI (nI 0)]) (rest := []) rfl rfl rfl (s_238 (d := d + 5) hS (by omega) (by omega)) ?_
    refine gW_eq (st' := [vI (S (113 + 6 * k))]) rfl (by rw [show S (113 + 6 * k + 0) = S (113 + 6 * k) from congrArg S (by omega)]) rfl ?_
    refine gW_eq (st' := [vI (nI v)]) rfl (by rw [show S (113 + 6 * k) = nI v from hv]) rfl ?_
    refine g_if1 (i' := 95) (P := v < 0) rfl rfl (g_ltN (show nI v = nI v from (rfl : nI v = nI v)) (show 0 = nI 0 from (show (0 : Int32) = nI 0 from rfl)) (by omega) (by omega)) (fun h2 => absurd h2 (by omega)) (fun _ => ?_)
    refine g_pure 2 (i' := 55) (lv' := [some (vR 800), some (vI (nI c)), some (vI (nI k)), some (vI (nI f)), some (vI 0)]) (st' := []) rfl ?_
    exact o2 h1

theorem b_268_44x {X : Nat × (Nat → Int32)} {d : Nat} {p : Nat → Nat} {sg : Mg} {Q : am_R → Prop} {B : Nat} {S : Nat → Int32} (hI : Inv B S) (hS : sg 801 = S) {c : Nat} {k : Nat} {f : Nat} {z4 : Option AV} (u_c : c ≤ 100) (u_k : k ≤ 7) (u_f : f ≤ 8) (q1 : k < sn S 1) (hv : S (113 + 6 * k) = -1)
    (o1 : (sn S 2 ≤ f) → gW X (d + 6) k_268 38 [some (vR 800), some (vI (nI c)), some (vI (nI (k + 1))), some (vI (nI f)), z4] [] p sg Q)
    (o2 : (¬ (sn S 2 ≤ f)) → gW X (d + 6) k_268 38 [some (vR 800), some (vI (nI c)), some (vI (nI (k + 1))), some (vI (nI f)), z4] [] p sg Q) :
    gW X (d + 6) k_268 44 [some (vR 800), some (vI (nI c)), some (vI (nI k)), some (vI (nI f)), z4] [] p sg Q := by
  have b0 := hI.b0; have b1 := hI.b1; have b2 := hI.b2; have b3 := hI.b3; have b4 := hI.b4; have b5 := hI.b5; have b6 := hI.b6; have b7 := hI.b7; have b8 := hI.b8; have b9 := hI.b9; have b14 := hI.b14
  refine g_pure 2 (i' := 46) (lv' := [some (vR 800), some (vI (nI c)), some (vI (nI k)), some (vI (nI f)), z4]) (st' := [vR 800, vI (nI f)]) rfl ?_
  refine g_cV1 rfl (args := [vR 800]) (rest := [vI (nI f)]) rfl rfl rfl (s_207 (d := d + 5) hS) ?_
  refine g_if2 (i' := 95) (P := sn S 2 ≤ f) rfl rfl (g_geN (show nI f = nI f from (rfl : nI f = nI f)) (show S 2 = nI (sn S 2) from (hI.c2)) (by omega) (by omega)) (fun h1 => ?_) (fun h1 => ?_)
  · refine g_pure 2 (i' := 38) (lv' := [some (vR 800), some (vI (nI c)), some (vI (nI k + 1)), some (vI (nI f)), z4]) (st' := []) rfl ?_
    refine gW_eq (lv' := [some (vR 800), some (vI (nI c)), some (vI (nI (k + 1))), some (vI (nI f)), z4]) (st' := []) (by rw [(show (nI k + 1) = nI (k + 1) from ((g_add (rfl : nI k = nI k) (show (1 : Int32) = nI 1 from rfl))).trans (congrArg nI (by omega)))]) rfl rfl ?_
    exact o1 h1
  · refine g_pure 3 (i' := 51) (lv' := [some (vR 800), some (vI (nI c)), some (vI (nI k)), some (vI (nI f)), z4]) (st' := [vI 0, vI (nI k), vR 800]) rfl ?_
    refine gW_eq (st' := [vI (nI 0), vI (nI k), vR 800]) rfl (by rw [(show (0 : Int32) = nI 0 from rfl)]) rfl ?_
    refine g_cV1 rfl (args := [vR 800, vI (nI k), vI (nI 0)]) (rest := []) rfl rfl rfl (s_238 (d := d + 5) hS (by omega) (by omega)) ?_
    refine gW_eq (st' := [vI (S (113 + 6 * k))]) rfl (by rw [show S (113 + 6 * k + 0) = S (113 + 6 * k) from congrArg S (by omega)]) rfl ?_
    refine gW_eq (st' := [vI (-1)]) rfl (by rw [show S (113 + 6 * k) = (-1) from hv]) rfl ?_
    refine g_if1 (i' := 95) (P := ((-1) : Int32) < 0) rfl rfl Iff.rfl (fun _ => ?_) (fun h2 => absurd (by decide) h2)
    refine g_pure 2 (i' := 38) (lv' := [some (vR 800), some (vI (nI c)), some (vI (nI k + 1)), some (vI (nI f)), z4]) (st' := []) rfl ?_
    refine gW_eq (lv' := [some (vR 800), some (vI (nI c)), some (vI (nI (k + 1))), some (vI (nI f)), z4]) (st' := []) (by rw [(show (nI k + 1) = nI (k + 1) from ((g_add (rfl : nI k = nI k) (show (1 : Int32) = nI 1 from rfl))).trans (congrArg nI (by omega)))]) rfl rfl ?_
    exact o2 h1

theorem b_268_38 {X : Nat × (Nat → Int32)} {d : Nat} {p : Nat → Nat} {sg : Mg} {Q : am_R → Prop} {B : Nat} {S : Nat → Int32} (hI : Inv B S) (hS : sg 801 = S) {c : Nat} {k : Nat} {z3 : Option AV} {z4 : Option AV} (u_c : c ≤ 100) (u_k : k ≤ 8)
    (o1 : (sn S 1 ≤ k) → Q (gRv p sg (nI c)))
    (o2 : (¬ (sn S 1 ≤ k)) → gW X (d + 6) k_268 44 [some (vR 800), some (vI (nI c)), some (vI (nI k)), some (vI 0), z4] [] p sg Q) :
    gW X (d + 6) k_268 38 [some (vR 800), some (vI (nI c)), some (vI (nI k)), z3, z4] [] p sg Q := by
  have b0 := hI.b0; have b1 := hI.b1; have b2 := hI.b2; have b3 := hI.b3; have b4 := hI.b4; have b5 := hI.b5; have b6 := hI.b6; have b7 := hI.b7; have b8 := hI.b8; have b9 := hI.b9; have b14 := hI.b14
  refine g_pure 2 (i' := 40) (lv' := [some (vR 800), some (vI (nI c)), some (vI (nI k)), z3, z4]) (st' := [vR 800, vI (nI k)]) rfl ?_
  refine g_cV1 rfl (args := [vR 800]) (rest := [vI (nI k)]) rfl rfl rfl (s_203 (d := d + 5) hS) ?_
  refine g_if2 (i' := 97) (P := sn S 1 ≤ k) rfl rfl (g_geN (show nI k = nI k from (rfl : nI k = nI k)) (show S 1 = nI (sn S 1) from (hI.c1)) (by omega) (by omega)) (fun h1 => ?_) (fun h1 => ?_)
  · refine g_pure 1 (i' := 98) (lv' := [some (vR 800), some (vI (nI c)), some (vI (nI k)), z3, z4]) (st' := [vI (nI c)]) rfl ?_
    refine g_iret rfl ?_
    exact o1 h1
  · refine g_pure 2 (i' := 44) (lv' := [some (vR 800), some (vI (nI c)), some (vI (nI k)), some (vI 0), z4]) (st' := []) rfl ?_
    exact o2 h1

theorem heN_le (S : Nat → Int32) (tl : Nat → Nat) (k f : Nat) : heN S tl k f ≤ 1 := by
  unfold heN
  split
  · split <;> omega
  · omega
theorem l_268_55 {X : Nat × (Nat → Int32)} {d : Nat} {p : Nat → Nat} {sg : Mg} {B : Nat} {S : Nat → Int32} (hI : Inv B S) (hS : sg 801 = S) {Q : am_R → Prop} {tl : Nat → Nat} {c k f : Nat} (hc : c ≤ 99) (hk : k < sn S 1) (hf : f ≤ 7) (htl : ∀ j, j < sn S 1 → sg 808 j = nI (tl j) ∧ tl j < 256)
    (x : ∀ z4, gW X (d + 6) k_268 44 [some (vR 800), some (vI (nI (c + heN S tl k f))), some (vI (nI k)), some (vI (nI (f + 1))), z4] [] p (va_up sg 801 (heS S tl k f)) Q) :
    gW X (d + 6) k_268 55 [some (vR 800), some (vI (nI c)), some (vI (nI k)), some (vI (nI f)), some (vI (nI 0))] [] p sg Q := by
  have b1 := hI.b1
  refine g_upI (P := fun j => gW X (d + 6) k_268 55 [some (vR 800), some (vI (nI c)), some (vI (nI k)), some (vI (nI f)), some (vI (nI j))] [] p sg Q) (I := fun j => ∀ i, i < j → teP S tl k f i = false) (n := sn S 1) (a := 0) (by omega) none_below (fun j _ hj hi ih => ?_) (fun hi => ?_)
  · obtain ⟨t1, t2⟩ := htl j hj
    refine b_268_55 hI hS (by omega) (by omega) hf (by omega) hk (fun h => by omega) (fun _ h => ?_) (fun _ h hb => ?_) (fun _ h hb => ?_)
    · refine ih (not_below hi ?_)
      unfold teP
      rw [decide_eq_false h, Bool.false_and]
    · rw [t1, nI_bit1 (by omega) (by omega)] at hb
      have hP : teP S tl k f j = true := by
        unfold teP
        rw [decide_eq_true h, hb]
        rfl
      have hT : teN S tl k f = j := fnd_eq (Nat.zero_le _) (by omega) hP (fun i _ h => hi i h)
      refine b_268_77 hI hS (by omega) (by omega) hf (by omega) hk (fun h => by omega) (fun _ => ?_)
      have e1 : heS S tl k f = lrS S k f j := by unfold heS; rw [hT, if_pos hj]
      have e2 : heN S tl k f = if (sn S (113 + 6 * k + 5)).testBit f = true then 0 else 1 := by unfold heN; rw [hT, if_pos hj]
      rw [e1, e2] at x
      refine g_pure 5 (i' := 86) (lv' := [some (vR 800), some (vI (nI c)), some (vI (nI k)), some (vI (nI f)), some (vI (nI j))]) (st' := [vI (nI j), vI (nI f), vI (nI k), vR 800, vI (nI c)]) rfl ?_
      refine g_cV1 rfl (args := [vR 800, vI (nI k), vI (nI f), vI (nI j)]) (rest := [vI (nI c)]) rfl rfl rfl (s_261 (d := d + 4) hI hS hk hf (by omega)) ?_
      have fin : ∀ n y, y = nI c + nI n → n = (if (sn S (113 + 6 * k + 5)).testBit f = true then 0 else 1) → gW X (d + 6) k_268 92 [some (vR 800), some (vI (nI c)), some (vI (nI k)), some (vI (nI f)), some (vI (nI j))] [vI y] p (va_up sg 801 (lrS S k f j)) Q := by
        intro n y hy hn
        refine g_pure 3 (i' := 44) (lv' := [some (vR 800), some (vI y), some (vI (nI k)), some (vI (nI f + 1)), some (vI (nI j))]) (st' := []) rfl ?_
        refine gW_eq (lv' := [some (vR 800), some (vI (nI (c + n))), some (vI (nI k)), some (vI (nI (f + 1))), some (vI (nI j))]) (by rw [nI_succ, hy, nI_add]) rfl rfl ?_
        rw [hn]
        exact x _
      refine g_if1 (i' := 90) (P := (sn S (113 + 6 * k + 5)).testBit f = true) rfl rfl ?_ (fun hb => ?_) (fun hb => ?_)
      · show (if (sn S (113 + 6 * k + 5)).testBit f = true then (0 : Int32) else 1) = 0 ↔ _
        by_cases hb : (sn S (113 + 6 * k + 5)).testBit f = true
        · rw [if_pos hb]; exact ⟨fun _ => hb, fun _ => rfl⟩
        · rw [if_neg hb]; exact ⟨fun h => absurd h (by decide), fun h => absurd h hb⟩
      · refine g_pure 2 (i' := 92) (lv' := [some (vR 800), some (vI (nI c)), some (vI (nI k)), some (vI (nI f)), some (vI (nI j))]) (st' := [vI (nI c + 0)]) rfl ?_
        exact fin 0 _ rfl (by rw [if_pos hb])
      · refine g_pure 3 (i' := 92) (lv' := [some (vR 800), some (vI (nI c)), some (vI (nI k)), some (vI (nI f)), some (vI (nI j))]) (st' := [vI (nI c + 1)]) rfl ?_
        exact fin 1 _ rfl (by rw [if_neg hb])
    · rw [t1, nI_bit1 (by omega) (by omega)] at hb
      refine ih (not_below hi ?_)
      unfold teP
      rw [show (tl j).testBit f = false by simpa using hb, Bool.and_false]
  · have hT : ¬ teN S tl k f < sn S 1 := by
      intro h
      unfold teN at h
      have := (fnd_spec (teP S tl k f) (sn S 1) 0).2.2.2 (by omega)
      rw [hi _ h] at this
      cases this
    refine b_268_55 hI hS (by omega) (by omega) hf (by omega) hk (fun _ => ?_) (fun h => by omega) (fun h => by omega) (fun h => by omega)
    refine b_268_77 hI hS (by omega) (by omega) hf (by omega) hk (fun _ => ?_) (fun h => by omega)
    have x := x (some (vI (nI (sn S 1))))
    unfold heS heN at x
    rw [if_neg hT, if_neg hT, Nat.add_zero, ← hS, va_up_same, hS] at x
    exact x

theorem tkF_le (tl : Nat → Nat) (k : Nat) (S : Nat → Int32) : ∀ f, (tkF tl k S f).2 ≤ f
  | 0 => Nat.le_refl _
  | f + 1 => by
    have h1 := tkF_le tl k S f
    have h2 := heN_le (tkF tl k S f).1 tl k f
    show (tkF tl k S f).2 + heN (tkF tl k S f).1 tl k f ≤ f + 1
    omega
theorem tkA_le (tl : Nat → Nat) (F : Nat) (S : Nat → Int32) : ∀ k, (tkA tl F S k).2 ≤ F * k
  | 0 => Nat.zero_le _
  | k + 1 => by
    have h1 := tkA_le tl F S k
    have h2 := tkF_le tl k (tkA tl F S k).1 F
    have h3 : F * (k + 1) = F * k + F := Nat.mul_succ F k
    unfold tkA
    split
    · omega
    · dsimp only; omega
theorem l_268_44 {X : Nat × (Nat → Int32)} {d : Nat} {p : Nat → Nat} {sg : Mg} {B : Nat} {S : Nat → Int32} (hI : Inv B S) (hS : sg 801 = S) {Q : am_R → Prop} {tl : Nat → Nat} {c k v : Nat} {z4 : Option AV} (hc : c ≤ 80) (hk : k < sn S 1) (hv : S (113 + 6 * k) = nI v) (hv0 : v < sn S 0) (htl : ∀ j, j < sn S 1 → sg 808 j = nI (tl j) ∧ tl j < 256)
    (x : ∀ z3 z4, gW X (d + 6) k_268 38 [some (vR 800), some (vI (nI (c + (tkF tl k S (sn S 2)).2))), some (vI (nI (k + 1))), z3, z4] [] p (va_up sg 801 (tkF tl k S (sn S 2)).1) Q) :
    gW X (d + 6) k_268 44 [some (vR 800), some (vI (nI c)), some (vI (nI k)), some (vI (nI 0)), z4] [] p sg Q := by
  have b1 := hI.b1; have b2 := hI.b2
  have key := g_upI (P := fun f => ∀ z4, gW X (d + 6) k_268 44 [some (vR 800), some (vI (nI (c + (tkF tl k S f).2))), some (vI (nI k)), some (vI (nI f)), z4] [] p (va_up sg 801 (tkF tl k S f).1) Q) (I := fun _ => True) (n := sn S 2) (a := 0) (by omega) trivial ?_ ?_
  · have h := key z4
    rw [show (tkF tl k S 0).1 = sg 801 from hS.symm, va_up_same] at h
    exact h
  · intro f _ hf _ ih z4
    have ih := ih trivial
    obtain ⟨hT, hT2⟩ := tkF_inv hI (tl := tl) hk f (by omega)
    have hle := tkF_le tl k S f
    rw [show tkF tl k S (f + 1) = (heS (tkF tl k S f).1 tl k f, (tkF tl k S f).2 + heN (tkF tl k S f).1 tl k f) from rfl] at ih
    have t0 : sn (tkF tl k S f).1 0 = sn S 0 := sn_eq (hT2 0 (by omega))
    have t1 : sn (tkF tl k S f).1 1 = sn S 1 := sn_eq (hT2 1 (by omega))
    have t2 : sn (tkF tl k S f).1 2 = sn S 2 := sn_eq (hT2 2 (by omega))
    have tw : (tkF tl k S f).1 (113 + 6 * k) = nI v := (hT2 _ (by omega)).trans hv
    generalize tkF tl k S f = T at hT t0 t1 t2 tw ih hle ⊢
    refine b_268_44v hT (va_up_self _ _ _) (by omega) (by omega) (by omega) (by omega) (by omega) tw (fun h => by omega) (fun _ => ?_)
    refine l_268_55 hT (va_up_self _ _ _) (tl := tl) (by omega) (by omega) (by omega) (fun j hj => by rw [va_up_ne _ _ (by decide)]; exact htl j (by omega)) (fun z4 => ?_)
    rw [va_up2, Nat.add_assoc]
    exact ih z4
  · intro _ z4
    obtain ⟨hT, hT2⟩ := tkF_inv hI (tl := tl) hk (sn S 2) (by omega)
    have hle := tkF_le tl k S (sn S 2)
    have t0 : sn (tkF tl k S (sn S 2)).1 0 = sn S 0 := sn_eq (hT2 0 (by omega))
    have t1 : sn (tkF tl k S (sn S 2)).1 1 = sn S 1 := sn_eq (hT2 1 (by omega))
    have t2 : sn (tkF tl k S (sn S 2)).1 2 = sn S 2 := sn_eq (hT2 2 (by omega))
    have tw : (tkF tl k S (sn S 2)).1 (113 + 6 * k) = nI v := (hT2 _ (by omega)).trans hv
    exact b_268_44v hT (va_up_self _ _ _) (by omega) (by omega) (by omega) (by omega) (by omega) tw (fun _ => x _ _) (fun h => by omega)
/-- the reference: all talk -/
theorem s_268 {X : Nat × (Nat → Int32)} {d : Nat} {p : Nat → Nat} {sg : Mg} {B : Nat} {S : Nat → Int32} (hI : Inv B S) (hS : sg 801 = S) (hA : InvA S) : gF X (d + 7) 268 [vR 800] p sg (fun r => ∃ s, ((∀ c, c ≠ 801 → c ≠ 807 → c ≠ 808 → s c = sg c) ∧ s 801 = (tkA (tlF S) (sn S 2) S (sn S 1)).1) ∧ r = gRv p s (nI (tkA (tlF S) (sn S 2) S (sn S 1)).2)) := by
  have b0 := hI.b0; have b1 := hI.b1; have b2 := hI.b2
  refine g_in (cd := k_268) (nL := 5) (rc := 13) rfl (g_A (a := 800) (kd := 0) (n := 12) rfl (by decide)) (g_c1 rfl) (b_268_0 hI hS (l_268_2 hI hS hA (fun s0 hs0 h7 => ?_)))
  have hS0 : s0 801 = S := (hs0 801 (by decide) (by decide)).trans hS
  have key := g_upI (P := fun k => ∀ z3 z4, gW X (d + 6) k_268 38 [some (vR 800), some (vI (nI (tkA (tlF S) (sn S 2) S k).2)), some (vI (nI k)), z3, z4] [] p (va_up s0 801 (tkA (tlF S) (sn S 2) S k).1) (fun r => ∃ s, ((∀ c, c ≠ 801 → c ≠ 807 → c ≠ 808 → s c = sg c) ∧ s 801 = (tkA (tlF S) (sn S 2) S (sn S 1)).1) ∧ r = gRv p s (nI (tkA (tlF S) (sn S 2) S (sn S 1)).2))) (I := fun _ => True) (n := sn S 1) (a := 0) (by omega) trivial ?_ ?_
  · have h := key none none
    rw [show (tkA (tlF S) (sn S 2) S 0).1 = s0 801 from hS0.symm, va_up_same] at h
    exact h
  · intro k _ hk _ ih z3 z4
    have ih := ih trivial
    obtain ⟨hT, hT2⟩ := tkA_inv hI (tl := tlF S) (F := sn S 2) (by omega) k (by omega)
    have hle := tkA_le (tlF S) (sn S 2) S k
    have hle2 : sn S 2 * k ≤ 8 * 7 := Nat.mul_le_mul b2 (by omega)
    rw [show tkA (tlF S) (sn S 2) S (k + 1) = if (tkA (tlF S) (sn S 2) S k).1 (113 + 6 * k) = -1 then tkA (tlF S) (sn S 2) S k else ((tkF (tlF S) k (tkA (tlF S) (sn S 2) S k).1 (sn S 2)).1, (tkA (tlF S) (sn S 2) S k).2 + (tkF (tlF S) k (tkA (tlF S) (sn S 2) S k).1 (sn S 2)).2) from rfl] at ih
    have t0 : sn (tkA (tlF S) (sn S 2) S k).1 0 = sn S 0 := sn_eq (hT2 0 (by omega))
    have t1 : sn (tkA (tlF S) (sn S 2) S k).1 1 = sn S 1 := sn_eq (hT2 1 (by omega))
    have t2 : sn (tkA (tlF S) (sn S 2) S k).1 2 = sn S 2 := sn_eq (hT2 2 (by omega))
    generalize tkA (tlF S) (sn S 2) S k = T at hT t0 t1 t2 ih hle ⊢
    refine b_268_38 hT (va_up_self _ _ _) (by omega) (by omega) (fun h => by omega) (fun _ => ?_)
    rcases (hT.per (show k < sn T.1 1 by omega)).1 with hw | hw
    · have hne : ¬ T.1 (113 + 6 * k) = -1 := by rw [hw.1.1]; exact nI_m1 (by have := hw.1.2; omega)
      rw [if_neg hne] at ih
      refine l_268_44 hT (va_up_self _ _ _) (tl := tlF S) (by omega) (by omega) hw.1.1 hw.1.2 (fun j hj => ?_) (fun z3 z4 => ?_)
      · rw [va_up_ne _ _ (by decide)]
        exact ⟨h7 j (by omega), tlF_lt hI (by omega)⟩
      · rw [va_up2, t2]
        exact ih z3 z4
    · rw [if_pos hw.1] at ih
      exact b_268_44x hT (va_up_self _ _ _) (by omega) (by omega) (f := 0) (by omega) (by omega) hw.1 (fun _ => ih _ _) (fun _ => ih _ _)
  · intro _ z3 z4
    obtain ⟨hT, hT2⟩ := tkA_inv hI (tl := tlF S) (F := sn S 2) (by omega) (sn S 1) (Nat.le_refl _)
    have hle := tkA_le (tlF S) (sn S 2) S (sn S 1)
    have hle2 : sn S 2 * sn S 1 ≤ 8 * 8 := Nat.mul_le_mul b2 b1
    have t1 : sn (tkA (tlF S) (sn S 2) S (sn S 1)).1 1 = sn S 1 := sn_eq (hT2 1 (by omega))
    refine b_268_38 hT (va_up_self _ _ _) (by omega) (by omega) (fun _ => ⟨_, ⟨fun c c1 c2 c3 => ?_, va_up_self _ _ _⟩, rfl⟩) (fun h => by omega)
    rw [va_up_ne _ _ c1]; exact hs0 c c2 c3
