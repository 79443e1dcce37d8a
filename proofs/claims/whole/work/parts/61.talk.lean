/-! ALL TALK: the class (made by wip/whole/gen61.py) -/
theorem b_31_50 {X : Nat × (Nat → Int32)} {d : Nat} {p : Nat → Nat} {sg : Mg} {Q : am_R → Prop} {B : Nat} {S : Nat → Int32} (hI : Inv B S) (hL : cwL 250 sg S) (hD : cwD 200 sg S) {n : Nat} {k : Nat} {z3 : Option AV} {z4 : Option AV} (u_n : n ≤ 8) (u_k : k ≤ 8)
    (o1 : (n ≤ k) → Q (gR0 p sg))
    (o2 : (¬ (n ≤ k)) → gW X (d + 5) k_31 55 [some (vR 6), some (vI (nI n)), some (vI (nI k)), some (vI 0), z4] [] p sg Q) :
    gW X (d + 5) k_31 50 [some (vR 6), some (vI (nI n)), some (vI (nI k)), z3, z4] [] p sg Q := by
  have b0 := hI.b0; have b1 := hI.b1; have b2 := hI.b2; have b3 := hI.b3; have b4 := hI.b4; have b5 := hI.b5; have b6 := hI.b6; have b7 := hI.b7; have b8 := hI.b8; have b9 := hI.b9; have b14 := hI.b14
  refine g_pure 2 (i' := 52) (lv' := [some (vR 6), some (vI (nI n)), some (vI (nI k)), z3, z4]) (st' := [vI (nI n), vI (nI k)]) rfl ?_
  refine g_if2 (i' := 83) (P := n ≤ k) rfl rfl (g_geN (show nI k = nI k from (rfl : nI k = nI k)) (show nI n = nI n from (rfl : nI n = nI n)) (by omega) (by omega)) (fun h1 => ?_) (fun h1 => ?_)
  · refine g_vret rfl ?_
    exact o1 h1
  · refine g_pure 2 (i' := 55) (lv' := [some (vR 6), some (vI (nI n)), some (vI (nI k)), some (vI 0), z4]) (st' := []) rfl ?_
    exact o2 h1

theorem b_31_55 {X : Nat × (Nat → Int32)} {d : Nat} {p : Nat → Nat} {sg : Mg} {Q : am_R → Prop} {B : Nat} {S : Nat → Int32} (hI : Inv B S) (hL : cwL 250 sg S) (hD : cwD 200 sg S) {n : Nat} {k : Nat} {f : Nat} {z4 : Option AV} (u_n : n ≤ 8) (u_k : k ≤ 7) (u_f : f ≤ 8) (q1 : k < sn S 1)
    (o1 : (sn S 2 ≤ f) → gW X (d + 5) k_31 50 [some (vR 6), some (vI (nI n)), some (vI (nI (k + 1))), some (vI (nI f)), z4] [] p sg Q)
    (o2 : (¬ (sn S 2 ≤ f)) → (S (113 + 6 * k) = (-1)) → gW X (d + 5) k_31 50 [some (vR 6), some (vI (nI n)), some (vI (nI (k + 1))), some (vI (nI f)), z4] [] p sg Q)
    (o3 : (¬ (sn S 2 ≤ f)) → (¬ (S (113 + 6 * k) = (-1))) → ((sn S (113 + 6 * k + 5)).testBit f = true) → gW X (d + 5) k_31 55 [some (vR 6), some (vI (nI n)), some (vI (nI k)), some (vI (nI (f + 1))), z4] [] p sg Q)
    (o4 : (¬ (sn S 2 ≤ f)) → (¬ (S (113 + 6 * k) = (-1))) → (¬ ((sn S (113 + 6 * k + 5)).testBit f = true)) → gW X (d + 5) k_31 77 [some (vR 6), some (vI (nI n)), some (vI (nI k)), some (vI (nI f)), z4] [vI (nI k), vR 6] p sg Q) :
    gW X (d + 5) k_31 55 [some (vR 6), some (vI (nI n)), some (vI (nI k)), some (vI (nI f)), z4] [] p sg Q := by
  have b0 := hI.b0; have b1 := hI.b1; have b2 := hI.b2; have b3 := hI.b3; have b4 := hI.b4; have b5 := hI.b5; have b6 := hI.b6; have b7 := hI.b7; have b8 := hI.b8; have b9 := hI.b9; have b14 := hI.b14
  refine g_pure 5 (i' := 60) (lv' := [some (vR 6), some (vI (nI n)), some (vI (nI k)), some (vI (nI f)), z4]) (st' := [vI 2, vR 203, vI (nI f)]) rfl ?_
  refine g_ald rfl (g_A (a := 203) (kd := 1) (n := 6) rfl (by decide)) (by decide) (show 2 = nI 2 from (show (2 : Int32) = nI 2 from rfl)) (by decide) (show _ = S 2 from (hD.cnt (by decide))) ?_
  refine g_if2 (i' := 81) (P := sn S 2 ≤ f) rfl rfl (g_geN (show nI f = nI f from (rfl : nI f = nI f)) (show S 2 = nI (sn S 2) from (hI.c2)) (by omega) (by omega)) (fun h1 => ?_) (fun h1 => ?_)
  · refine g_pure 2 (i' := 50) (lv' := [some (vR 6), some (vI (nI n)), some (vI (nI k + 1)), some (vI (nI f)), z4]) (st' := []) rfl ?_
    refine gW_eq (lv' := [some (vR 6), some (vI (nI n)), some (vI (nI (k + 1))), some (vI (nI f)), z4]) (st' := []) (by rw [(show (nI k + 1) = nI (k + 1) from ((g_add (rfl : nI k = nI k) (show (1 : Int32) = nI 1 from rfl))).trans (congrArg nI (by omega)))]) rfl rfl ?_
    exact o1 h1
  · refine g_pure 4 (i' := 66) (lv' := [some (vR 6), some (vI (nI n)), some (vI (nI k)), some (vI (nI f)), z4]) (st' := [vI (nI k), vR 252]) rfl ?_
    refine g_ald rfl (g_A (a := 252) (kd := 1) (n := 8) rfl (by decide)) (by decide) (show nI k = nI k from (rfl : nI k = nI k)) (by omega) (show _ = S (113 + 6 * k) from (hL.per 0 (by decide) (by omega))) ?_
    refine g_pure 1 (i' := 68) (lv' := [some (vR 6), some (vI (nI n)), some (vI (nI k)), some (vI (nI f)), z4]) (st' := [vI (-1), vI (S (113 + 6 * k))]) rfl ?_
    refine g_if2 (i' := 81) (P := S (113 + 6 * k) = (-1)) rfl rfl Iff.rfl (fun h2 => ?_) (fun h2 => ?_)
    · refine g_pure 2 (i' := 50) (lv' := [some (vR 6), some (vI (nI n)), some (vI (nI k + 1)), some (vI (nI f)), z4]) (st' := []) rfl ?_
      refine gW_eq (lv' := [some (vR 6), some (vI (nI n)), some (vI (nI (k + 1))), some (vI (nI f)), z4]) (st' := []) (by rw [(show (nI k + 1) = nI (k + 1) from ((g_add (rfl : nI k = nI k) (show (1 : Int32) = nI 1 from rfl))).trans (congrArg nI (by omega)))]) rfl rfl ?_
      exact o2 h1 h2
    · refine g_pure 4 (i' := 73) (lv' := [some (vR 6), some (vI (nI n)), some (vI (nI k)), some (vI (nI f)), z4]) (st' := [vI (nI f), vI (nI k), vR 250]) rfl ?_
      refine g_cV1 rfl (args := [vR 250, vI (nI k), vI (nI f)]) (rest := []) rfl rfl rfl (s_58 (d := d + 4) hI hL hD (by omega) (by omega)) ?_
      refine g_if1 (i' := 79) (P := (sn S (113 + 6 * k + 5)).testBit f = true) rfl rfl g_neB (fun h3 => ?_) (fun h3 => ?_)
      · refine g_pure 2 (i' := 55) (lv' := [some (vR 6), some (vI (nI n)), some (vI (nI k)), some (vI (nI f + 1)), z4]) (st' := []) rfl ?_
        refine gW_eq (lv' := [some (vR 6), some (vI (nI n)), some (vI (nI k)), some (vI (nI (f + 1))), z4]) (st' := []) (by rw [(show (nI f + 1) = nI (f + 1) from ((g_add (rfl : nI f = nI f) (show (1 : Int32) = nI 1 from rfl))).trans (congrArg nI (by omega)))]) rfl rfl ?_
        exact o3 h1 h2 h3
      · refine g_pure 2 (i' := 77) (lv' := [some (vR 6), some (vI (nI n)), some (vI (nI k)), some (vI (nI f)), z4]) (st' := [vI (nI k), vR 6]) rfl ?_
        exact o4 h1 h2 h3
