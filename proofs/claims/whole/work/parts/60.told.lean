/-! WHAT IS TOLD (made by wip/whole/gen60.py) -/
theorem b_32_0 {X : Nat × (Nat → Int32)} {d : Nat} {p : Nat → Nat} {sg : Mg} {Q : am_R → Prop} {B : Nat} {S : Nat → Int32} (hI : Inv B S) (hL : cwL 250 sg S) (hD : cwD 200 sg S) {k : Nat} {f : Nat} (u_k : k ≤ 7) (u_f : f ≤ 7)
    (o1 : gW X (d) k_32 2 [some (vR 6), some (vI (nI k)), some (vI (nI f)), some (vI 0)] [] p sg Q) :
    gW X (d) k_32 0 [some (vR 6), some (vI (nI k)), some (vI (nI f)), none] [] p sg Q := by
  have b0 := hI.b0; have b1 := hI.b1; have b2 := hI.b2; have b3 := hI.b3; have b4 := hI.b4; have b5 := hI.b5; have b6 := hI.b6; have b7 := hI.b7; have b8 := hI.b8; have b9 := hI.b9; have b14 := hI.b14
  refine g_pure 2 (i' := 2) (lv' := [some (vR 6), some (vI (nI k)), some (vI (nI f)), some (vI 0)]) (st' := []) rfl ?_
  exact o1

theorem b_32_2 {X : Nat × (Nat → Int32)} {d : Nat} {p : Nat → Nat} {sg : Mg} {Q : am_R → Prop} {B : Nat} {S : Nat → Int32} (hI : Inv B S) (hL : cwL 250 sg S) (hD : cwD 200 sg S) {k : Nat} {f : Nat} {j : Nat} (u_k : k ≤ 7) (u_f : f ≤ 7) (u_j : j ≤ 8) (q1 : k < sn S 1)
    (o1 : (sn S 1 ≤ j) → Q (gR0 p sg))
    (o2 : (¬ (sn S 1 ≤ j)) → (¬ S (113 + 6 * j) = S (113 + 6 * k)) → gW X (d + 2) k_32 2 [some (vR 6), some (vI (nI k)), some (vI (nI f)), some (vI (nI (j + 1)))] [] p sg Q)
    (o3 : (¬ (sn S 1 ≤ j)) → (S (113 + 6 * j) = S (113 + 6 * k)) → (((sg 7 j >>> (nI f &&& 31)) &&& 1) = 0) → gW X (d + 2) k_32 2 [some (vR 6), some (vI (nI k)), some (vI (nI f)), some (vI (nI (j + 1)))] [] p sg Q)
    (o4 : (¬ (sn S 1 ≤ j)) → (S (113 + 6 * j) = S (113 + 6 * k)) → (¬ (((sg 7 j >>> (nI f &&& 31)) &&& 1) = 0)) → gW X (d + 2) k_32 29 [some (vR 6), some (vI (nI k)), some (vI (nI f)), some (vI (nI j))] [] p sg Q) :
    gW X (d + 2) k_32 2 [some (vR 6), some (vI (nI k)), some (vI (nI f)), some (vI (nI j))] [] p sg Q := by
  have b0 := hI.b0; have b1 := hI.b1; have b2 := hI.b2; have b3 := hI.b3; have b4 := hI.b4; have b5 := hI.b5; have b6 := hI.b6; have b7 := hI.b7; have b8 := hI.b8; have b9 := hI.b9; have b14 := hI.b14
  refine g_pure 5 (i' := 7) (lv' := [some (vR 6), some (vI (nI k)), some (vI (nI f)), some (vI (nI j))]) (st' := [vI 1, vR 203, vI (nI j)]) rfl ?_
  refine g_ald rfl (g_A (a := 203) (kd := 1) (n := 6) rfl (by decide)) (by decide) (show 1 = nI 1 from (show (1 : Int32) = nI 1 from rfl)) (by decide) (show _ = S 1 from (hD.cnt (by decide))) ?_
  refine g_if2 (i' := 47) (P := sn S 1 ≤ j) rfl rfl (g_geN (show nI j = nI j from (rfl : nI j = nI j)) (show S 1 = nI (sn S 1) from (hI.c1)) (by omega) (by omega)) (fun h1 => ?_) (fun h1 => ?_)
  · refine g_vret rfl ?_
    exact o1 h1
  · refine g_pure 4 (i' := 13) (lv' := [some (vR 6), some (vI (nI k)), some (vI (nI f)), some (vI (nI j))]) (st' := [vI (nI j), vR 252]) rfl ?_
    refine g_ald rfl (g_A (a := 252) (kd := 1) (n := 8) rfl (by decide)) (by decide) (show nI j = nI j from (rfl : nI j = nI j)) (by omega) (show _ = S (113 + 6 * j) from (hL.per 0 (by decide) (by omega))) ?_
    refine g_pure 4 (i' := 18) (lv' := [some (vR 6), some (vI (nI k)), some (vI (nI f)), some (vI (nI j))]) (st' := [vI (nI k), vR 252, vI (S (113 + 6 * j))]) rfl ?_
    refine g_ald rfl (g_A (a := 252) (kd := 1) (n := 8) rfl (by decide)) (by decide) (show nI k = nI k from (rfl : nI k = nI k)) (by omega) (show _ = S (113 + 6 * k) from (hL.per 0 (by decide) (by omega))) ?_
    refine g_if2 (i' := 45) (P := ¬ S (113 + 6 * j) = S (113 + 6 * k)) rfl rfl Iff.rfl (fun h2 => ?_) (fun h2 => ?_)
    · refine g_pure 2 (i' := 2) (lv' := [some (vR 6), some (vI (nI k)), some (vI (nI f)), some (vI (nI j + 1))]) (st' := []) rfl ?_
      refine gW_eq (lv' := [some (vR 6), some (vI (nI k)), some (vI (nI f)), some (vI (nI (j + 1)))]) (st' := []) (by rw [(show (nI j + 1) = nI (j + 1) from ((g_add (rfl : nI j = nI j) (show (1 : Int32) = nI 1 from rfl))).trans (congrArg nI (by omega)))]) rfl rfl ?_
      exact o2 h1 h2
    · have h2 := Classical.not_not.mp h2
      refine g_pure 3 (i' := 23) (lv' := [some (vR 6), some (vI (nI k)), some (vI (nI f)), some (vI (nI j))]) (st' := [vI (nI j), vR 7]) rfl ?_
      refine g_ald rfl (g_A (a := 7) (kd := 1) (n := 8) rfl (by decide)) (by decide) (show nI j = nI j from (rfl : nI j = nI j)) (by omega) (show _ = sg 7 j from rfl) ?_
      refine g_pure 4 (i' := 28) (lv' := [some (vR 6), some (vI (nI k)), some (vI (nI f)), some (vI (nI j))]) (st' := [vI ((sg 7 j >>> (nI f &&& 31)) &&& 1)]) rfl ?_
      refine g_if1 (i' := 45) (P := ((sg 7 j >>> (nI f &&& 31)) &&& 1) = 0) rfl rfl Iff.rfl (fun h3 => ?_) (fun h3 => ?_)
      · refine g_pure 2 (i' := 2) (lv' := [some (vR 6), some (vI (nI k)), some (vI (nI f)), some (vI (nI j + 1))]) (st' := []) rfl ?_
        refine gW_eq (lv' := [some (vR 6), some (vI (nI k)), some (vI (nI f)), some (vI (nI (j + 1)))]) (st' := []) (by rw [(show (nI j + 1) = nI (j + 1) from ((g_add (rfl : nI j = nI j) (show (1 : Int32) = nI 1 from rfl))).trans (congrArg nI (by omega)))]) rfl rfl ?_
        exact o3 h1 h2 h3
      · exact o4 h1 h2 h3

theorem b_31_0 {X : Nat × (Nat → Int32)} {d : Nat} {p : Nat → Nat} {sg : Mg} {Q : am_R → Prop} {B : Nat} {S : Nat → Int32} (hI : Inv B S) (hL : cwL 250 sg S) (hD : cwD 200 sg S)
    (o1 : gW X (d) k_31 8 [some (vR 6), some (vI (S 1)), some (vI 0), none, none] [] p sg Q) :
    gW X (d) k_31 0 [some (vR 6), none, none, none, none] [] p sg Q := by
  have b0 := hI.b0; have b1 := hI.b1; have b2 := hI.b2; have b3 := hI.b3; have b4 := hI.b4; have b5 := hI.b5; have b6 := hI.b6; have b7 := hI.b7; have b8 := hI.b8; have b9 := hI.b9; have b14 := hI.b14
  refine g_pure 4 (i' := 4) (lv' := [some (vR 6), none, none, none, none]) (st' := [vI 1, vR 203]) rfl ?_
  refine g_ald rfl (g_A (a := 203) (kd := 1) (n := 6) rfl (by decide)) (by decide) (show 1 = nI 1 from (show (1 : Int32) = nI 1 from rfl)) (by decide) (show _ = S 1 from (hD.cnt (by decide))) ?_
  refine g_pure 3 (i' := 8) (lv' := [some (vR 6), some (vI (S 1)), some (vI 0), none, none]) (st' := []) rfl ?_
  exact o1

theorem nI_m1 {n : Nat} (h : n < 2147483648) : ¬ nI n = -1 := fun e => by
  have h1 : nI n < 0 := by rw [e]; decide
  exact absurd h1 (nI_pos h)

theorem b_31_e {X : Nat × (Nat → Int32)} {d : Nat} {p : Nat → Nat} {sg : Mg} {Q : am_R → Prop} {B : Nat} {S : Nat → Int32} (hI : Inv B S) (hL : cwL 250 sg S) (hD : cwD 200 sg S) {n : Nat} {z3 : Option AV} {z4 : Option AV} (u_n : n ≤ 8) (u_n : n ≤ 8)
    (o1 : gW X (d + 5) k_31 50 [some (vR 6), some (vI (nI n)), some (vI 0), z3, z4] [] p sg Q) :
    gW X (d + 5) k_31 8 [some (vR 6), some (vI (nI n)), some (vI (nI n)), z3, z4] [] p sg Q := by
  have b0 := hI.b0; have b1 := hI.b1; have b2 := hI.b2; have b3 := hI.b3; have b4 := hI.b4; have b5 := hI.b5; have b6 := hI.b6; have b7 := hI.b7; have b8 := hI.b8; have b9 := hI.b9; have b14 := hI.b14
  refine g_pure 2 (i' := 10) (lv' := [some (vR 6), some (vI (nI n)), some (vI (nI n)), z3, z4]) (st' := [vI (nI n), vI (nI n)]) rfl ?_
  refine g_if2 (i' := 48) (P := n ≤ n) rfl rfl (g_geN (show nI n = nI n from (rfl : nI n = nI n)) (show nI n = nI n from (rfl : nI n = nI n)) (by omega) (by omega)) (fun _ => ?_) (fun h1 => absurd (Nat.le_refl _) h1)
  refine g_pure 2 (i' := 50) (lv' := [some (vR 6), some (vI (nI n)), some (vI 0), z3, z4]) (st' := []) rfl ?_
  exact o1

theorem b_31_v {X : Nat × (Nat → Int32)} {d : Nat} {p : Nat → Nat} {sg : Mg} {Q : am_R → Prop} {B : Nat} {S : Nat → Int32} (hI : Inv B S) (hL : cwL 250 sg S) (hD : cwD 200 sg S) {v : Nat} (hW : LW S sg) {n : Nat} {j : Nat} {z3 : Option AV} {z4 : Option AV} (u_n : n ≤ 8) (u_j : j ≤ 8) (q1 : j < n) (q2 : n ≤ sn S 1) (q3 : v < sn S 0) (hv : S (113 + 6 * j) = nI v)
    (o1 : ∀ s3 : Mg, (∀ c, c ≠ 201 → c ≠ 213 → s3 c = sg c) → (brd S (scf S j v (sn S 8)) 1 = true) → ∀ s6 : Mg, s6 = mu s3 7 j 0 → gW X (d + 5) k_31 8 [some (vR 6), some (vI (nI n)), some (vI (nI (j + 1))), some (vI (nI v)), some (vI 0)] [] p s6 Q)
    (o2 : ∀ s3 : Mg, (∀ c, c ≠ 201 → c ≠ 213 → s3 c = sg c) → (¬ (brd S (scf S j v (sn S 8)) 1 = true)) → ∀ s8 : Mg, s8 = mu s3 7 j (S (113 + 6 * j + 5)) → gW X (d + 5) k_31 8 [some (vR 6), some (vI (nI n)), some (vI (nI (j + 1))), some (vI (nI v)), some (vI 1)] [] p s8 Q) :
    gW X (d + 5) k_31 8 [some (vR 6), some (vI (nI n)), some (vI (nI j)), z3, z4] [] p sg Q := by
  have b0 := hI.b0; have b1 := hI.b1; have b2 := hI.b2; have b3 := hI.b3; have b4 := hI.b4; have b5 := hI.b5; have b6 := hI.b6; have b7 := hI.b7; have b8 := hI.b8; have b9 := hI.b9; have b14 := hI.b14
  refine g_pure 2 (i' := 10) (lv' := [some (vR 6), some (vI (nI n)), some (vI (nI j)), z3, z4]) (st' := [vI (nI n), vI (nI j)]) rfl ?_
  refine g_if2 (i' := 48) (P := n ≤ j) rfl rfl (g_geN (show nI j = nI j from (rfl : nI j = nI j)) (show nI n = nI n from (rfl : nI n = nI n)) (by omega) (by omega)) (fun h1 => absurd h1 (by omega)) (fun _ => ?_)
  refine g_pure 4 (i' := 15) (lv' := [some (vR 6), some (vI (nI n)), some (vI (nI j)), z3, z4]) (st' := [vI (nI j), vR 252]) rfl ?_
  refine g_ald rfl (g_A (a := 252) (kd := 1) (n := 8) rfl (by decide)) (by decide) (show nI j = nI j from (rfl : nI j = nI j)) (by omega) (show _ = nI v from ((hL.per 0 (by decide) (by omega))).trans hv) ?_
  refine g_pure 3 (i' := 19) (lv' := [some (vR 6), some (vI (nI n)), some (vI (nI j)), some (vI (nI v)), z4]) (st' := [vI (-1), vI (nI v)]) rfl ?_
  refine g_if2 (i' := 31) (P := nI v = (-1)) rfl rfl Iff.rfl (fun h2 => absurd h2 (nI_m1 (by omega))) (fun _ => ?_)
  refine g_pure 6 (i' := 26) (lv' := [some (vR 6), some (vI (nI n)), some (vI (nI j)), some (vI (nI v)), z4]) (st' := [vR 250, vI (nI v), vI (nI j), vR 200]) rfl ?_
  refine g_getI rfl (g_A (a := 250) (kd := 0) (n := 6) rfl (by decide)) (show _ = S 8 from hL.f12) ?_
  refine gW_eq (st' := [vI (nI (sn S 8)), vI (nI v), vI (nI j), vR 200]) rfl (by rw [(show S 8 = nI (sn S 8) from (hI.c8))]) rfl ?_
  refine g_cV1E rfl (args := [vR 200, vI (nI j), vI (nI v), vI (nI (sn S 8))]) (rest := []) rfl rfl rfl (s_115 (d := d) hI hL hD hW (by omega) (by omega) (by omega)) (fun s3 es3 => ?_)
  have hLs3 : cwL 250 s3 S := (hL).eqc (fun c h1 h2 => es3 c (by omega) (by omega))
  have hDs3 : cwD 200 s3 S := (hD).eqc (fun c h1 => es3 c (by omega) (by omega))
  refine g_if1 (i' := 31) (P := brd S (scf S j v (sn S 8)) 1 = true) rfl rfl g_neB (fun h4 => ?_) (fun h4 => ?_)
  · refine g_pure 6 (i' := 37) (lv' := [some (vR 6), some (vI (nI n)), some (vI (nI j)), some (vI (nI v)), some (vI 0)]) (st' := [vI 0, vI (nI j), vR 7]) rfl ?_
    refine g_if1 (i' := 44) (P := 0 = 0) rfl rfl (g_eqN (show 0 = nI 0 from (show (0 : Int32) = nI 0 from rfl)) (show 0 = nI 0 from (show (0 : Int32) = nI 0 from rfl)) (by omega) (by omega)) (fun _ => ?_) (fun h5 => absurd (by omega) h5)
    refine g_pure 1 (i' := 45) (lv' := [some (vR 6), some (vI (nI n)), some (vI (nI j)), some (vI (nI v)), some (vI 0)]) (st' := [vI 0, vI (nI j), vR 7]) rfl ?_
    refine g_ast rfl (g_A (a := 7) (kd := 1) (n := 8) rfl (by decide)) (by decide) (show nI j = nI j from (rfl : nI j = nI j)) (by omega) ?_
    refine g_setv (fun s6 es6 => ?_)
    have hLs6 : cwL 250 s6 S := by rw [es6]; exact hLs3.out (by decide)
    have hDs6 : cwD 200 s6 S := by rw [es6]; exact hDs3.out (by decide)
    refine g_pure 2 (i' := 8) (lv' := [some (vR 6), some (vI (nI n)), some (vI (nI j + 1)), some (vI (nI v)), some (vI 0)]) (st' := []) rfl ?_
    refine gW_eq (lv' := [some (vR 6), some (vI (nI n)), some (vI (nI (j + 1))), some (vI (nI v)), some (vI 0)]) (st' := []) (by rw [(show (nI j + 1) = nI (j + 1) from ((g_add (rfl : nI j = nI j) (show (1 : Int32) = nI 1 from rfl))).trans (congrArg nI (by omega)))]) rfl rfl ?_
    exact o1 s3 es3 h4 s6 es6
  · refine g_pure 7 (i' := 37) (lv' := [some (vR 6), some (vI (nI n)), some (vI (nI j)), some (vI (nI v)), some (vI 1)]) (st' := [vI 1, vI (nI j), vR 7]) rfl ?_
    refine g_if1 (i' := 44) (P := 1 = 0) rfl rfl (g_eqN (show 1 = nI 1 from (show (1 : Int32) = nI 1 from rfl)) (show 0 = nI 0 from (show (0 : Int32) = nI 0 from rfl)) (by omega) (by omega)) (fun h7 => absurd h7 (by omega)) (fun _ => ?_)
    refine g_pure 4 (i' := 42) (lv' := [some (vR 6), some (vI (nI n)), some (vI (nI j)), some (vI (nI v)), some (vI 1)]) (st' := [vI (nI j), vR 257, vI (nI j), vR 7]) rfl ?_
    refine g_ald rfl (g_A (a := 257) (kd := 1) (n := 8) rfl (by decide)) (by decide) (show nI j = nI j from (rfl : nI j = nI j)) (by omega) (show _ = S (113 + 6 * j + 5) from (hLs3.per 5 (by decide) (by omega))) ?_
    refine g_pure 1 (i' := 45) (lv' := [some (vR 6), some (vI (nI n)), some (vI (nI j)), some (vI (nI v)), some (vI 1)]) (st' := [vI (S (113 + 6 * j + 5)), vI (nI j), vR 7]) rfl ?_
    refine g_ast rfl (g_A (a := 7) (kd := 1) (n := 8) rfl (by decide)) (by decide) (show nI j = nI j from (rfl : nI j = nI j)) (by omega) ?_
    refine g_setv (fun s8 es8 => ?_)
    have hLs8 : cwL 250 s8 S := by rw [es8]; exact hLs3.out (by decide)
    have hDs8 : cwD 200 s8 S := by rw [es8]; exact hDs3.out (by decide)
    refine g_pure 2 (i' := 8) (lv' := [some (vR 6), some (vI (nI n)), some (vI (nI j + 1)), some (vI (nI v)), some (vI 1)]) (st' := []) rfl ?_
    refine gW_eq (lv' := [some (vR 6), some (vI (nI n)), some (vI (nI (j + 1))), some (vI (nI v)), some (vI 1)]) (st' := []) (by rw [(show (nI j + 1) = nI (j + 1) from ((g_add (rfl : nI j = nI j) (show (1 : Int32) = nI 1 from rfl))).trans (congrArg nI (by omega)))]) rfl rfl ?_
    exact o2 s3 es3 h4 s8 es8

theorem b_31_x {X : Nat × (Nat → Int32)} {d : Nat} {p : Nat → Nat} {sg : Mg} {Q : am_R → Prop} {B : Nat} {S : Nat → Int32} (hI : Inv B S) (hL : cwL 250 sg S) (hD : cwD 200 sg S) {n : Nat} {j : Nat} {z3 : Option AV} {z4 : Option AV} (u_n : n ≤ 8) (u_j : j ≤ 8) (q1 : j < n) (q2 : n ≤ sn S 1) (hv : S (113 + 6 * j) = -1)
    (o1 : ∀ s4 : Mg, s4 = mu sg 7 j 0 → gW X (d + 5) k_31 8 [some (vR 6), some (vI (nI n)), some (vI (nI (j + 1))), some (vI (-1)), some (vI 0)] [] p s4 Q) :
    gW X (d + 5) k_31 8 [some (vR 6), some (vI (nI n)), some (vI (nI j)), z3, z4] [] p sg Q := by
  have b0 := hI.b0; have b1 := hI.b1; have b2 := hI.b2; have b3 := hI.b3; have b4 := hI.b4; have b5 := hI.b5; have b6 := hI.b6; have b7 := hI.b7; have b8 := hI.b8; have b9 := hI.b9; have b14 := hI.b14
  refine g_pure 2 (i' := 10) (lv' := [some (vR 6), some (vI (nI n)), some (vI (nI j)), z3, z4]) (st' := [vI (nI n), vI (nI j)]) rfl ?_
  refine g_if2 (i' := 48) (P := n ≤ j) rfl rfl (g_geN (show nI j = nI j from (rfl : nI j = nI j)) (show nI n = nI n from (rfl : nI n = nI n)) (by omega) (by omega)) (fun h1 => absurd h1 (by omega)) (fun _ => ?_)
  refine g_pure 4 (i' := 15) (lv' := [some (vR 6), some (vI (nI n)), some (vI (nI j)), z3, z4]) (st' := [vI (nI j), vR 252]) rfl ?_
  refine g_ald rfl (g_A (a := 252) (kd := 1) (n := 8) rfl (by decide)) (by decide) (show nI j = nI j from (rfl : nI j = nI j)) (by omega) (show _ = (-1) from ((hL.per 0 (by decide) (by omega))).trans hv) ?_
  refine g_pure 3 (i' := 19) (lv' := [some (vR 6), some (vI (nI n)), some (vI (nI j)), some (vI (-1)), z4]) (st' := [vI (-1), vI (-1)]) rfl ?_
  refine g_if2 (i' := 31) (P := ((-1) : Int32) = (-1)) rfl rfl Iff.rfl (fun _ => ?_) (fun h2 => absurd (by decide) h2)
  refine g_pure 6 (i' := 37) (lv' := [some (vR 6), some (vI (nI n)), some (vI (nI j)), some (vI (-1)), some (vI 0)]) (st' := [vI 0, vI (nI j), vR 7]) rfl ?_
  refine g_if1 (i' := 44) (P := 0 = 0) rfl rfl (g_eqN (show 0 = nI 0 from (show (0 : Int32) = nI 0 from rfl)) (show 0 = nI 0 from (show (0 : Int32) = nI 0 from rfl)) (by omega) (by omega)) (fun _ => ?_) (fun h3 => absurd (by omega) h3)
  refine g_pure 1 (i' := 45) (lv' := [some (vR 6), some (vI (nI n)), some (vI (nI j)), some (vI (-1)), some (vI 0)]) (st' := [vI 0, vI (nI j), vR 7]) rfl ?_
  refine g_ast rfl (g_A (a := 7) (kd := 1) (n := 8) rfl (by decide)) (by decide) (show nI j = nI j from (rfl : nI j = nI j)) (by omega) ?_
  refine g_setv (fun s4 es4 => ?_)
  have hLs4 : cwL 250 s4 S := by rw [es4]; exact hL.out (by decide)
  have hDs4 : cwD 200 s4 S := by rw [es4]; exact hD.out (by decide)
  refine g_pure 2 (i' := 8) (lv' := [some (vR 6), some (vI (nI n)), some (vI (nI j + 1)), some (vI (-1)), some (vI 0)]) (st' := []) rfl ?_
  refine gW_eq (lv' := [some (vR 6), some (vI (nI n)), some (vI (nI (j + 1))), some (vI (-1)), some (vI 0)]) (st' := []) (by rw [(show (nI j + 1) = nI (j + 1) from ((g_add (rfl : nI j = nI j) (show (1 : Int32) = nI 1 from rfl))).trans (congrArg nI (by omega)))]) rfl rfl ?_
  exact o1 s4 es4

/-- who tells it: the first who is there and told -/
def teP (S : Nat → Int32) (tl : Nat → Nat) (k f j : Nat) : Bool := decide (S (113 + 6 * j) = S (113 + 6 * k)) && (tl j).testBit f
def teN (S : Nat → Int32) (tl : Nat → Nat) (k f : Nat) : Nat := fnd (teP S tl k f) (sn S 1) 0
def heS (S : Nat → Int32) (tl : Nat → Nat) (k f : Nat) : Nat → Int32 := if teN S tl k f < sn S 1 then lrS S k f (teN S tl k f) else S
def heN (S : Nat → Int32) (tl : Nat → Nat) (k f : Nat) : Nat := if teN S tl k f < sn S 1 then (if (sn S (113 + 6 * k + 5)).testBit f = true then 0 else 1) else 0
theorem s_32 {X : Nat × (Nat → Int32)} {d : Nat} {p : Nat → Nat} {sg : Mg} {B : Nat} {S : Nat → Int32} (hI : Inv B S) (hL : cwL 250 sg S) (hD : cwD 200 sg S) {k f : Nat} {tl : Nat → Nat} (hk : k < sn S 1) (hf : f ≤ 7) (htl : ∀ j, j < sn S 1 → sg 7 j = nI (tl j) ∧ tl j < 256) : gF X (d + 3) 32 [vR 6, vI (nI k), vI (nI f)] p sg (fun r => ∃ s, (DF sg s ∧ s 7 = sg 7 ∧ s 6 4 = sg 6 4 + nI (heN S tl k f) ∧ CS s (heS S tl k f)) ∧ r = gR0 p s) := by
  have b1 := hI.b1
  refine g_in (cd := k_32) (nL := 4) (rc := 3) rfl (g_A (a := 6) (kd := 0) (n := 2) rfl (by decide)) (g_c1 rfl) (b_32_0 hI hL hD (by omega) hf ?_)
  refine g_upI (P := fun j => gW X (d + 2) k_32 2 [some (vR 6), some (vI (nI k)), some (vI (nI f)), some (vI (nI j))] [] p sg _) (I := fun j => ∀ i, i < j → teP S tl k f i = false) (n := sn S 1) (a := 0) (by omega) none_below (fun j _ hj hi ih => ?_) (fun hi => ?_)
  · obtain ⟨t1, t2⟩ := htl j hj
    refine b_32_2 hI hL hD (by omega) hf (by omega) hk (fun h => by omega) (fun _ h => ?_) (fun _ h hb => ?_) (fun _ h hb => ?_)
    · refine ih (not_below hi ?_)
      unfold teP
      rw [decide_eq_false h, Bool.false_and]
    · rw [t1, nI_bit0 (by omega) (by omega)] at hb
      refine ih (not_below hi ?_)
      unfold teP
      rw [hb, Bool.and_false]
    · rw [t1, nI_bit0 (by omega) (by omega)] at hb
      have hP : teP S tl k f j = true := by
        unfold teP
        rw [decide_eq_true h, show (tl j).testBit f = true by simpa using hb]
        rfl
      have hT : teN S tl k f = j := fnd_eq (Nat.zero_le _) (by omega) hP (fun i _ h => hi i h)
      unfold heS heN
      rw [hT, if_pos hj, if_pos hj]
      refine g_pure 2 (i' := 31) (lv' := [some (vR 6), some (vI (nI k)), some (vI (nI f)), some (vI (nI j))]) (st' := [vR 6, vR 6]) rfl ?_
      refine g_getI rfl (g_A (a := 6) (kd := 0) (n := 2) rfl (by decide)) rfl ?_
      refine g_pure 5 (i' := 37) (lv' := [some (vR 6), some (vI (nI k)), some (vI (nI f)), some (vI (nI j))]) (st' := [vI (nI j), vI (nI f), vI (nI k), vR 250, vI (sg 6 4), vR 6]) rfl ?_
      refine g_cV1E rfl (args := [vR 250, vI (nI k), vI (nI f), vI (nI j)]) (rest := [vI (sg 6 4), vR 6]) rfl rfl rfl (s_57 (d := d) hI hL hD hk hf (by omega)) (fun s3 h9 => ?_)
      have fin : ∀ n x, x = sg 6 4 + nI n → n = (if (sn S (113 + 6 * k + 5)).testBit f = true then 0 else 1) → gW X (d + 2) k_32 43 [some (vR 6), some (vI (nI k)), some (vI (nI f)), some (vI (nI j))] [vI x, vR 6] p s3 (fun r => ∃ s, (DF sg s ∧ s 7 = sg 7 ∧ s 6 4 = sg 6 4 + nI (if (sn S (113 + 6 * k + 5)).testBit f = true then 0 else 1) ∧ CS s (lrS S k f j)) ∧ r = gR0 p s) := by
        intro n x hx hn
        refine g_putI rfl (g_A (a := 6) (kd := 0) (n := 2) rfl (by decide)) ?_
        refine g_vret rfl ⟨_, ⟨fun c x1 x2 x3 x4 x5 => ?_, ?_, ?_, h9.2.1.out (by decide), h9.2.2.out (by decide)⟩, rfl⟩
        · rw [mu_ne x1, h9.1 c (by omega) (by omega) (by omega)]
        · rw [mu_ne (by decide), h9.1 7 (by decide) (by decide) (by decide)]
        · rw [mu_self, hx, hn]
      refine g_if1 (i' := 41) (P := (sn S (113 + 6 * k + 5)).testBit f = true) rfl rfl ?_ (fun hb => ?_) (fun hb => ?_)
      · show (if (sn S (113 + 6 * k + 5)).testBit f = true then (0 : Int32) else 1) = 0 ↔ _
        by_cases hb : (sn S (113 + 6 * k + 5)).testBit f = true
        · rw [if_pos hb]; exact ⟨fun _ => hb, fun _ => rfl⟩
        · rw [if_neg hb]; exact ⟨fun h => absurd h (by decide), fun h => absurd h hb⟩
      · refine g_pure 2 (i' := 43) (lv' := [some (vR 6), some (vI (nI k)), some (vI (nI f)), some (vI (nI j))]) (st' := [vI (sg 6 4 + 0), vR 6]) rfl ?_
        exact fin 0 _ rfl (by rw [if_pos hb])
      · refine g_pure 3 (i' := 43) (lv' := [some (vR 6), some (vI (nI k)), some (vI (nI f)), some (vI (nI j))]) (st' := [vI (sg 6 4 + 1), vR 6]) rfl ?_
        exact fin 1 _ rfl (by rw [if_neg hb])
  · have hT : ¬ teN S tl k f < sn S 1 := by
      intro h
      unfold teN at h
      have := (fnd_spec (teP S tl k f) (sn S 1) 0).2.2.2 (by omega)
      rw [hi _ h] at this
      cases this
    refine b_32_2 hI hL hD (by omega) hf (by omega) hk (fun _ => ?_) (fun h => by omega) (fun h => by omega) (fun h => by omega)
    unfold heS heN
    rw [if_neg hT, if_neg hT]
    refine ⟨sg, ⟨DF.rf _, rfl, ?_, hL, hD⟩, rfl⟩
    show sg 6 4 = sg 6 4 + 0
    rw [Int32.add_zero]

/-- what one tells -/
def tlF (S : Nat → Int32) (j : Nat) : Nat := if S (113 + 6 * j) = -1 then 0 else if brd S (scf S j (sn S (113 + 6 * j)) (sn S 8)) 1 = true then 0 else sn S (113 + 6 * j + 5)
theorem l_31_8 {X : Nat × (Nat → Int32)} {d : Nat} {p : Nat → Nat} {sg : Mg} {B : Nat} {S : Nat → Int32} (hI : Inv B S) (hL : cwL 250 sg S) (hD : cwD 200 sg S) {Q : am_R → Prop} (hW : LW S sg) {z3 z4 : Option AV}
    (x : ∀ s z3 z4, (∀ c, c ≠ 7 → c ≠ 201 → c ≠ 213 → s c = sg c) → (∀ i, i < sn S 1 → s 7 i = nI (tlF S i)) → gW X (d + 5) k_31 50 [some (vR 6), some (vI (nI (sn S 1))), some (vI (nI 0)), z3, z4] [] p s Q) :
    gW X (d + 5) k_31 8 [some (vR 6), some (vI (nI (sn S 1))), some (vI (nI 0)), z3, z4] [] p sg Q := by
  have b0 := hI.b0; have b1 := hI.b1
  refine g_upI (P := fun j => ∀ s z3 z4, (∀ c, c ≠ 7 → c ≠ 201 → c ≠ 213 → s c = sg c) → (∀ i, i < j → s 7 i = nI (tlF S i)) → gW X (d + 5) k_31 8 [some (vR 6), some (vI (nI (sn S 1))), some (vI (nI j)), z3, z4] [] p s Q) (I := fun _ => True) (n := sn S 1) (a := 0) (by omega) trivial (fun j _ hj _ ih s z3 z4 hs h7 => ?_) (fun _ s z3 z4 hs h7 => ?_) sg z3 z4 (fun _ _ _ _ => rfl) (fun i hi => absurd hi (Nat.not_lt_zero _))
  · have ih := ih trivial
    have hL2 : cwL 250 s S := hL.eqc (fun c c1 c2 => hs c (by omega) (by omega) (by omega))
    have hD2 : cwD 200 s S := hD.eqc (fun c c1 => hs c (by omega) (by omega) (by omega))
    have hW2 : LW S s := hW.eqc (fun c c1 c2 => hs c (by omega) (by omega) (by omega))
    have fin : ∀ (s5 : Mg) (n : Nat) z3 z4, (∀ c, c ≠ 201 → c ≠ 213 → s5 c = s c) → n = tlF S j → gW X (d + 5) k_31 8 [some (vR 6), some (vI (nI (sn S 1))), some (vI (nI (j + 1))), z3, z4] [] p (mu s5 7 j (nI n)) Q := by
      intro s5 n z3 z4 h5 hn
      refine ih _ _ _ (fun c c1 c2 c3 => by rw [mu_ne c1, h5 c c2 c3]; exact hs c c1 c2 c3) (fun i hi => ?_)
      by_cases e : i = j
      · subst e; rw [mu_self, hn]
      · rw [mu_idx e, h5 7 (by decide) (by decide)]; exact h7 i (by omega)
    rcases (hI.per hj).1 with hw | hw
    · have hv := hw.1.1
      have hv0 := hw.1.2
      have hne : ¬ S (113 + 6 * j) = -1 := by rw [hv]; exact nI_m1 (by omega)
      refine b_31_v hI hL2 hD2 hW2 (by omega) (by omega) hj (Nat.le_refl _) hv0 hv (fun s5 h5 hb s8 e8 => ?_) (fun s5 h5 hb s10 e10 => ?_)
      · rw [e8]
        refine fin s5 0 _ _ h5 ?_
        unfold tlF
        rw [if_neg hne, if_pos hb]
      · rw [e10, (hI.per hj).2.2.2.1]
        refine fin s5 _ _ _ h5 ?_
        unfold tlF
        rw [if_neg hne, if_neg hb]
    · refine b_31_x hI hL2 hD2 (by omega) (by omega) hj (Nat.le_refl _) hw.1 (fun s4 e4 => ?_)
      rw [e4]
      refine fin s 0 _ _ (fun _ _ _ => rfl) ?_
      unfold tlF
      rw [if_pos hw.1]
  · have hL2 : cwL 250 s S := hL.eqc (fun c c1 c2 => hs c (by omega) (by omega) (by omega))
    have hD2 : cwD 200 s S := hD.eqc (fun c c1 => hs c (by omega) (by omega) (by omega))
    exact b_31_e hI hL2 hD2 (by omega) (by omega) (x s _ _ hs h7)
