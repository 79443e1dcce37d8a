/-! NETTED: the fewest payments (made by wip/whole/gen78.py) -/
theorem b_62_0 {X : Nat × (Nat → Int32)} {d : Nat} {p : Nat → Nat} {sg : Mg} {Q : am_R → Prop} {B : Nat} {S : Nat → Int32} (hI : Inv B S) (hL : cwL 250 sg S) (hD : cwD 200 sg S)
    (o1 : gW X (d + 2) k_62 9 [some (vR 21), some (vR 202), some (vI (S 1)), some (vI 0), some (vI 0), none] [] p sg Q) :
    gW X (d + 2) k_62 0 [some (vR 21), some (vR 202), none, none, none, none] [] p sg Q := by
  have b0 := hI.b0; have b1 := hI.b1; have b2 := hI.b2; have b3 := hI.b3; have b4 := hI.b4; have b5 := hI.b5; have b6 := hI.b6; have b7 := hI.b7; have b8 := hI.b8; have b9 := hI.b9; have b14 := hI.b14
  refine g_pure 3 (i' := 3) (lv' := [some (vR 21), some (vR 202), none, none, none, none]) (st' := [vI 1, vR 203]) rfl ?_
  refine g_ald rfl (g_A (a := 203) (kd := 1) (n := 6) rfl (by decide)) (by decide) (show 1 = nI 1 from (show (1 : Int32) = nI 1 from rfl)) (by decide) (show _ = S 1 from (hD.cnt (by decide))) ?_
  refine g_pure 5 (i' := 9) (lv' := [some (vR 21), some (vR 202), some (vI (S 1)), some (vI 0), some (vI 0), none]) (st' := []) rfl ?_
  exact o1

theorem b_62_9 {X : Nat × (Nat → Int32)} {d : Nat} {p : Nat → Nat} {sg : Mg} {Q : am_R → Prop} {B : Nat} {S : Nat → Int32} (hI : Inv B S) (hL : cwL 250 sg S) (hD : cwD 200 sg S) {n : Nat} {u : Nat} {j : Nat} {z5 : Option AV} (u_n : n ≤ 8) (u_u : u ≤ 255) (u_j : j ≤ 8)
    (o1 : (n ≤ j) → gW X (d + 2) k_62 41 [some (vR 21), some (vR 202), some (vI (nI n)), some (vI (nI u)), some (vI 1), z5] [] p sg Q)
    (o2 : (¬ (n ≤ j)) → ∃ k, (1 <<< (nI j &&& 31)) = nI k ∧ k < 256)
    (o3 : (¬ (n ≤ j)) → ∀ k2 : Nat, (1 <<< (nI j &&& 31)) = nI k2 → k2 < 256 → ∀ s3 : Mg, s3 = mu sg 22 k2 (bal S j) → ∃ k, (1 <<< (nI j &&& 31)) = nI k ∧ k < 256)
    (o4 : (¬ (n ≤ j)) → ∀ k2 : Nat, (1 <<< (nI j &&& 31)) = nI k2 → k2 < 256 → ∀ s3 : Mg, s3 = mu sg 22 k2 (bal S j) → ∀ k4 : Nat, (1 <<< (nI j &&& 31)) = nI k4 → k4 < 256 → (s3 22 k4 = 0) → gW X (d + 2) k_62 9 [some (vR 21), some (vR 202), some (vI (nI n)), some (vI (nI u ||| 0)), some (vI (nI (j + 1))), z5] [] p s3 Q)
    (o5 : (¬ (n ≤ j)) → ∀ k2 : Nat, (1 <<< (nI j &&& 31)) = nI k2 → k2 < 256 → ∀ s3 : Mg, s3 = mu sg 22 k2 (bal S j) → ∀ k4 : Nat, (1 <<< (nI j &&& 31)) = nI k4 → k4 < 256 → (¬ (s3 22 k4 = 0)) → gW X (d + 2) k_62 9 [some (vR 21), some (vR 202), some (vI (nI n)), some (vI (nI u ||| (1 <<< (nI j &&& 31)))), some (vI (nI (j + 1))), z5] [] p s3 Q) :
    gW X (d + 2) k_62 9 [some (vR 21), some (vR 202), some (vI (nI n)), some (vI (nI u)), some (vI (nI j)), z5] [] p sg Q := by
  have b0 := hI.b0; have b1 := hI.b1; have b2 := hI.b2; have b3 := hI.b3; have b4 := hI.b4; have b5 := hI.b5; have b6 := hI.b6; have b7 := hI.b7; have b8 := hI.b8; have b9 := hI.b9; have b14 := hI.b14
  refine g_pure 2 (i' := 11) (lv' := [some (vR 21), some (vR 202), some (vI (nI n)), some (vI (nI u)), some (vI (nI j)), z5]) (st' := [vI (nI n), vI (nI j)]) rfl ?_
  refine g_if2 (i' := 39) (P := n ≤ j) rfl rfl (g_geN (show nI j = nI j from (rfl : nI j = nI j)) (show nI n = nI n from (rfl : nI n = nI n)) (by omega) (by omega)) (fun h1 => ?_) (fun h1 => ?_)
  · refine g_pure 2 (i' := 41) (lv' := [some (vR 21), some (vR 202), some (vI (nI n)), some (vI (nI u)), some (vI 1), z5]) (st' := []) rfl ?_
    exact o1 h1
  · refine g_pure 8 (i' := 20) (lv' := [some (vR 21), some (vR 202), some (vI (nI n)), some (vI (nI u)), some (vI (nI j)), z5]) (st' := [vI (nI j), vR 202, vR 21, vI (1 <<< (nI j &&& 31)), vR 22]) rfl ?_
    refine g_cV1 rfl (args := [vR 21, vR 202, vI (nI j)]) (rest := [vI (1 <<< (nI j &&& 31)), vR 22]) rfl rfl rfl (s_63 (d := d + 1) hI hL hD (by omega)) ?_
    obtain ⟨k2, ek2, lk2⟩ := o2 h1
    refine g_ast rfl (g_A (a := 22) (kd := 1) (n := 256) rfl (by decide)) (by decide) (show (1 <<< (nI j &&& 31)) = nI k2 from ek2) (by omega) ?_
    refine g_setv (fun s3 es3 => ?_)
    have hLs3 : cwL 250 s3 S := by rw [es3]; exact hL.out (by decide)
    have hDs3 : cwD 200 s3 S := by rw [es3]; exact hD.out (by decide)
    refine g_pure 6 (i' := 28) (lv' := [some (vR 21), some (vR 202), some (vI (nI n)), some (vI (nI u)), some (vI (nI j)), z5]) (st' := [vI (1 <<< (nI j &&& 31)), vR 22, vI (nI u)]) rfl ?_
    obtain ⟨k4, ek4, lk4⟩ := o3 h1 k2 ek2 lk2 s3 es3
    refine g_ald rfl (g_A (a := 22) (kd := 1) (n := 256) rfl (by decide)) (by decide) (show (1 <<< (nI j &&& 31)) = nI k4 from ek4) (by omega) (show _ = s3 22 k4 from rfl) ?_
    refine g_if1 (i' := 34) (P := s3 22 k4 = 0) rfl rfl Iff.rfl (fun h5 => ?_) (fun h5 => ?_)
    · refine g_pure 5 (i' := 9) (lv' := [some (vR 21), some (vR 202), some (vI (nI n)), some (vI (nI u ||| 0)), some (vI (nI j + 1)), z5]) (st' := []) rfl ?_
      refine gW_eq (lv' := [some (vR 21), some (vR 202), some (vI (nI n)), some (vI (nI u ||| 0)), some (vI (nI (j + 1))), z5]) (st' := []) (by rw [(show (nI j + 1) = nI (j + 1) from ((g_add (rfl : nI j = nI j) (show (1 : Int32) = nI 1 from rfl))).trans (congrArg nI (by omega)))]) rfl rfl ?_
      exact o4 h1 k2 ek2 lk2 s3 es3 k4 ek4 lk4 h5
    · refine g_pure 8 (i' := 9) (lv' := [some (vR 21), some (vR 202), some (vI (nI n)), some (vI (nI u ||| (1 <<< (nI j &&& 31)))), some (vI (nI j + 1)), z5]) (st' := []) rfl ?_
      refine gW_eq (lv' := [some (vR 21), some (vR 202), some (vI (nI n)), some (vI (nI u ||| (1 <<< (nI j &&& 31)))), some (vI (nI (j + 1))), z5]) (st' := []) (by rw [(show (nI j + 1) = nI (j + 1) from ((g_add (rfl : nI j = nI j) (show (1 : Int32) = nI 1 from rfl))).trans (congrArg nI (by omega)))]) rfl rfl ?_
      exact o5 h1 k2 ek2 lk2 s3 es3 k4 ek4 lk4 h5

theorem b_62_41 {X : Nat × (Nat → Int32)} {d : Nat} {p : Nat → Nat} {sg : Mg} {Q : am_R → Prop} {z1 : Option AV} {n : Nat} {u : Nat} {s : Nat} {z5 : Option AV} (u_n : n ≤ 8) (u_u : u ≤ 255) (u_s : s ≤ 256) (q1 : s ≤ 255)
    (o1 : ((1 <<< (nI n &&& 31)) ≤ nI s) → Q (gRv p sg (bcI (nI u) - sg 23 u)))
    (o2 : (¬ ((1 <<< (nI n &&& 31)) ≤ nI s)) → (nI s = (nI s &&& (-(nI s)))) → gW X (d + 2) k_62 69 [some (vR 21), z1, some (vI (nI n)), some (vI (nI u)), some (vI (nI s)), some (vI (nI s &&& (-(nI s))))] [] p sg Q)
    (o3 : (¬ ((1 <<< (nI n &&& 31)) ≤ nI s)) → (¬ (nI s = (nI s &&& (-(nI s))))) → ∃ k, (nI s &&& (-(nI s))) = nI k ∧ k < 256)
    (o4 : (¬ ((1 <<< (nI n &&& 31)) ≤ nI s)) → (¬ (nI s = (nI s &&& (-(nI s))))) → ∀ k3 : Nat, (nI s &&& (-(nI s))) = nI k3 → k3 < 256 → ∃ k, (nI s ^^^ (nI s &&& (-(nI s)))) = nI k ∧ k < 256)
    (o5 : (¬ ((1 <<< (nI n &&& 31)) ≤ nI s)) → (¬ (nI s = (nI s &&& (-(nI s))))) → ∀ k3 : Nat, (nI s &&& (-(nI s))) = nI k3 → k3 < 256 → ∀ k4 : Nat, (nI s ^^^ (nI s &&& (-(nI s)))) = nI k4 → k4 < 256 → ∀ s5 : Mg, s5 = mu sg 22 s (sg 22 k3 + sg 22 k4) → gW X (d + 2) k_62 69 [some (vR 21), z1, some (vI (nI n)), some (vI (nI u)), some (vI (nI s)), some (vI (nI s &&& (-(nI s))))] [] p s5 Q) :
    gW X (d + 2) k_62 41 [some (vR 21), z1, some (vI (nI n)), some (vI (nI u)), some (vI (nI s)), z5] [] p sg Q := by
  refine g_pure 4 (i' := 45) (lv' := [some (vR 21), z1, some (vI (nI n)), some (vI (nI u)), some (vI (nI s)), z5]) (st' := [vI (1 <<< (nI n &&& 31)), vI (nI s)]) rfl ?_
  refine g_if2 (i' := 79) (P := (1 <<< (nI n &&& 31)) ≤ nI s) rfl rfl Iff.rfl (fun h1 => ?_) (fun h1 => ?_)
  · refine g_pure 1 (i' := 80) (lv' := [some (vR 21), z1, some (vI (nI n)), some (vI (nI u)), some (vI (nI s)), z5]) (st' := [vI (nI u)]) rfl ?_
    refine g_cS1 rfl (args := [vI (nI u)]) (rest := []) rfl rfl rfl (s_317 (d := d + 1) ) ?_
    refine g_pure 3 (i' := 84) (lv' := [some (vR 21), z1, some (vI (nI n)), some (vI (nI u)), some (vI (nI s)), z5]) (st' := [vI (nI u), vR 23, vI (bcI (nI u))]) rfl ?_
    refine g_ald rfl (g_A (a := 23) (kd := 1) (n := 256) rfl (by decide)) (by decide) (show nI u = nI u from (rfl : nI u = nI u)) (by omega) (show _ = sg 23 u from rfl) ?_
    refine g_pure 1 (i' := 86) (lv' := [some (vR 21), z1, some (vI (nI n)), some (vI (nI u)), some (vI (nI s)), z5]) (st' := [vI (bcI (nI u) - sg 23 u)]) rfl ?_
    refine g_iret rfl ?_
    exact o1 h1
  · refine g_pure 7 (i' := 53) (lv' := [some (vR 21), z1, some (vI (nI n)), some (vI (nI u)), some (vI (nI s)), some (vI (nI s &&& (-(nI s))))]) (st' := [vI (nI s &&& (-(nI s))), vI (nI s)]) rfl ?_
    refine g_if2 (i' := 69) (P := nI s = (nI s &&& (-(nI s)))) rfl rfl Iff.rfl (fun h2 => ?_) (fun h2 => ?_)
    · exact o2 h1 h2
    · refine g_pure 6 (i' := 60) (lv' := [some (vR 21), z1, some (vI (nI n)), some (vI (nI u)), some (vI (nI s)), some (vI (nI s &&& (-(nI s))))]) (st' := [vI (nI s &&& (-(nI s))), vR 22, vI (nI s), vR 22]) rfl ?_
      obtain ⟨k3, ek3, lk3⟩ := o3 h1 h2
      refine g_ald rfl (g_A (a := 22) (kd := 1) (n := 256) rfl (by decide)) (by decide) (show (nI s &&& (-(nI s))) = nI k3 from ek3) (by omega) (show _ = sg 22 k3 from rfl) ?_
      refine g_pure 5 (i' := 66) (lv' := [some (vR 21), z1, some (vI (nI n)), some (vI (nI u)), some (vI (nI s)), some (vI (nI s &&& (-(nI s))))]) (st' := [vI (nI s ^^^ (nI s &&& (-(nI s)))), vR 22, vI (sg 22 k3), vI (nI s), vR 22]) rfl ?_
      obtain ⟨k4, ek4, lk4⟩ := o4 h1 h2 k3 ek3 lk3
      refine g_ald rfl (g_A (a := 22) (kd := 1) (n := 256) rfl (by decide)) (by decide) (show (nI s ^^^ (nI s &&& (-(nI s)))) = nI k4 from ek4) (by omega) (show _ = sg 22 k4 from rfl) ?_
      refine g_pure 1 (i' := 68) (lv' := [some (vR 21), z1, some (vI (nI n)), some (vI (nI u)), some (vI (nI s)), some (vI (nI s &&& (-(nI s))))]) (st' := [vI (sg 22 k3 + sg 22 k4), vI (nI s), vR 22]) rfl ?_
      refine g_ast rfl (g_A (a := 22) (kd := 1) (n := 256) rfl (by decide)) (by decide) (show nI s = nI s from (rfl : nI s = nI s)) (by omega) ?_
      refine g_setv (fun s5 es5 => ?_)
      exact o5 h1 h2 k3 ek3 lk3 k4 ek4 lk4 s5 es5

theorem b_62_x {X : Nat × (Nat → Int32)} {d : Nat} {p : Nat → Nat} {sg : Mg} {Q : am_R → Prop} {z1 : Option AV} {n : Nat} {u : Nat} {s : Nat} {z5 : Option AV} (u_n : n ≤ 8) (u_u : u ≤ 255) (u_s : s ≤ 256)
    (o1 : ((1 <<< (nI n &&& 31)) ≤ nI s) → Q (gRv p sg (bcI (nI u) - sg 23 u)))
    (o2 : (¬ ((1 <<< (nI n &&& 31)) ≤ nI s)) → gW X (d + 2) k_62 46 [some (vR 21), z1, some (vI (nI n)), some (vI (nI u)), some (vI (nI s)), z5] [] p sg Q) :
    gW X (d + 2) k_62 41 [some (vR 21), z1, some (vI (nI n)), some (vI (nI u)), some (vI (nI s)), z5] [] p sg Q := by
  refine g_pure 4 (i' := 45) (lv' := [some (vR 21), z1, some (vI (nI n)), some (vI (nI u)), some (vI (nI s)), z5]) (st' := [vI (1 <<< (nI n &&& 31)), vI (nI s)]) rfl ?_
  refine g_if2 (i' := 79) (P := (1 <<< (nI n &&& 31)) ≤ nI s) rfl rfl Iff.rfl (fun h1 => ?_) (fun h1 => ?_)
  · refine g_pure 1 (i' := 80) (lv' := [some (vR 21), z1, some (vI (nI n)), some (vI (nI u)), some (vI (nI s)), z5]) (st' := [vI (nI u)]) rfl ?_
    refine g_cS1 rfl (args := [vI (nI u)]) (rest := []) rfl rfl rfl (s_317 (d := d + 1) ) ?_
    refine g_pure 3 (i' := 84) (lv' := [some (vR 21), z1, some (vI (nI n)), some (vI (nI u)), some (vI (nI s)), z5]) (st' := [vI (nI u), vR 23, vI (bcI (nI u))]) rfl ?_
    refine g_ald rfl (g_A (a := 23) (kd := 1) (n := 256) rfl (by decide)) (by decide) (show nI u = nI u from (rfl : nI u = nI u)) (by omega) (show _ = sg 23 u from rfl) ?_
    refine g_pure 1 (i' := 86) (lv' := [some (vR 21), z1, some (vI (nI n)), some (vI (nI u)), some (vI (nI s)), z5]) (st' := [vI (bcI (nI u) - sg 23 u)]) rfl ?_
    refine g_iret rfl ?_
    exact o1 h1
  · exact o2 h1

theorem b_300_0 {X : Nat × (Nat → Int32)} {d : Nat} {p : Nat → Nat} {sg : Mg} {Q : am_R → Prop} {B : Nat} {S : Nat → Int32} (hI : Inv B S) (hS : sg 801 = S)
    (o1 : gW X (d + 2) k_300 4 [some (vR 800), some (vI 0), some (vI 0), none, none, none] [] p sg Q) :
    gW X (d + 2) k_300 0 [some (vR 800), none, none, none, none, none] [] p sg Q := by
  have b0 := hI.b0; have b1 := hI.b1; have b2 := hI.b2; have b3 := hI.b3; have b4 := hI.b4; have b5 := hI.b5; have b6 := hI.b6; have b7 := hI.b7; have b8 := hI.b8; have b9 := hI.b9; have b14 := hI.b14
  refine g_pure 4 (i' := 4) (lv' := [some (vR 800), some (vI 0), some (vI 0), none, none, none]) (st' := []) rfl ?_
  exact o1

theorem b_300_4 {X : Nat × (Nat → Int32)} {d : Nat} {p : Nat → Nat} {sg : Mg} {Q : am_R → Prop} {B : Nat} {S : Nat → Int32} (hI : Inv B S) (hS : sg 801 = S) {u : Nat} {j : Nat} {z3 : Option AV} {z4 : Option AV} {z5 : Option AV} (u_u : u ≤ 255) (u_j : j ≤ 8)
    (o1 : (sn S 1 ≤ j) → gW X (d + 2) k_300 24 [some (vR 800), some (vI (nI u)), some (vI 1), z3, z4, z5] [] p sg Q)
    (o2 : (¬ (sn S 1 ≤ j)) → (bal S j = 0) → gW X (d + 2) k_300 4 [some (vR 800), some (vI (nI u ||| 0)), some (vI (nI (j + 1))), z3, z4, z5] [] p sg Q)
    (o3 : (¬ (sn S 1 ≤ j)) → (¬ (bal S j = 0)) → gW X (d + 2) k_300 4 [some (vR 800), some (vI (nI u ||| (1 <<< (nI j &&& 31)))), some (vI (nI (j + 1))), z3, z4, z5] [] p sg Q) :
    gW X (d + 2) k_300 4 [some (vR 800), some (vI (nI u)), some (vI (nI j)), z3, z4, z5] [] p sg Q := by
  have b0 := hI.b0; have b1 := hI.b1; have b2 := hI.b2; have b3 := hI.b3; have b4 := hI.b4; have b5 := hI.b5; have b6 := hI.b6; have b7 := hI.b7; have b8 := hI.b8; have b9 := hI.b9; have b14 := hI.b14
  refine g_pure 2 (i' := 6) (lv' := [some (vR 800), some (vI (nI u)), some (vI (nI j)), z3, z4, z5]) (st' := [vR 800, vI (nI j)]) rfl ?_
  refine g_cV1 rfl (args := [vR 800]) (rest := [vI (nI j)]) rfl rfl rfl (s_203 (d := d + 1) hS) ?_
  refine g_if2 (i' := 22) (P := sn S 1 ≤ j) rfl rfl (g_geN (show nI j = nI j from (rfl : nI j = nI j)) (show S 1 = nI (sn S 1) from (hI.c1)) (by omega) (by omega)) (fun h1 => ?_) (fun h1 => ?_)
  · refine g_pure 2 (i' := 24) (lv' := [some (vR 800), some (vI (nI u)), some (vI 1), z3, z4, z5]) (st' := []) rfl ?_
    exact o1 h1
  · refine g_pure 3 (i' := 11) (lv' := [some (vR 800), some (vI (nI u)), some (vI (nI j)), z3, z4, z5]) (st' := [vI (nI j), vR 800, vI (nI u)]) rfl ?_
    refine g_cV1 rfl (args := [vR 800, vI (nI j)]) (rest := [vI (nI u)]) rfl rfl rfl (s_301 (d := d) hI hS (by omega)) ?_
    refine g_if1 (i' := 17) (P := bal S j = 0) rfl rfl Iff.rfl (fun h2 => ?_) (fun h2 => ?_)
    · refine g_pure 5 (i' := 4) (lv' := [some (vR 800), some (vI (nI u ||| 0)), some (vI (nI j + 1)), z3, z4, z5]) (st' := []) rfl ?_
      refine gW_eq (lv' := [some (vR 800), some (vI (nI u ||| 0)), some (vI (nI (j + 1))), z3, z4, z5]) (st' := []) (by rw [(show (nI j + 1) = nI (j + 1) from ((g_add (rfl : nI j = nI j) (show (1 : Int32) = nI 1 from rfl))).trans (congrArg nI (by omega)))]) rfl rfl ?_
      exact o2 h1 h2
    · refine g_pure 8 (i' := 4) (lv' := [some (vR 800), some (vI (nI u ||| (1 <<< (nI j &&& 31)))), some (vI (nI j + 1)), z3, z4, z5]) (st' := []) rfl ?_
      refine gW_eq (lv' := [some (vR 800), some (vI (nI u ||| (1 <<< (nI j &&& 31)))), some (vI (nI (j + 1))), z3, z4, z5]) (st' := []) (by rw [(show (nI j + 1) = nI (j + 1) from ((g_add (rfl : nI j = nI j) (show (1 : Int32) = nI 1 from rfl))).trans (congrArg nI (by omega)))]) rfl rfl ?_
      exact o3 h1 h2

theorem b_300_24 {X : Nat × (Nat → Int32)} {d : Nat} {p : Nat → Nat} {sg : Mg} {Q : am_R → Prop} {B : Nat} {S : Nat → Int32} (hI : Inv B S) (hS : sg 801 = S) {u : Nat} {s : Nat} {z3 : Option AV} {z4 : Option AV} {z5 : Option AV} (u_u : u ≤ 255) (u_s : s ≤ 256)
    (o1 : ((1 <<< (S 1 &&& 31)) ≤ nI s) → (¬ u = 0) → Q (gRv p sg (bcI (nI u) - sg 815 u)))
    (o2 : ((1 <<< (S 1 &&& 31)) ≤ nI s) → (u = 0) → Q (gRv p sg 0))
    (o3 : (¬ ((1 <<< (S 1 &&& 31)) ≤ nI s)) → gW X (d + 2) k_300 36 [some (vR 800), some (vI (nI u)), some (vI (nI s)), some (vI 0), some (vI 0), some (vI 0)] [] p sg Q) :
    gW X (d + 2) k_300 24 [some (vR 800), some (vI (nI u)), some (vI (nI s)), z3, z4, z5] [] p sg Q := by
  have b0 := hI.b0; have b1 := hI.b1; have b2 := hI.b2; have b3 := hI.b3; have b4 := hI.b4; have b5 := hI.b5; have b6 := hI.b6; have b7 := hI.b7; have b8 := hI.b8; have b9 := hI.b9; have b14 := hI.b14
  refine g_pure 3 (i' := 27) (lv' := [some (vR 800), some (vI (nI u)), some (vI (nI s)), z3, z4, z5]) (st' := [vR 800, vI 1, vI (nI s)]) rfl ?_
  refine g_cV1 rfl (args := [vR 800]) (rest := [vI 1, vI (nI s)]) rfl rfl rfl (s_203 (d := d + 1) hS) ?_
  refine g_pure 1 (i' := 29) (lv' := [some (vR 800), some (vI (nI u)), some (vI (nI s)), z3, z4, z5]) (st' := [vI (1 <<< (S 1 &&& 31)), vI (nI s)]) rfl ?_
  refine g_if2 (i' := 79) (P := (1 <<< (S 1 &&& 31)) ≤ nI s) rfl rfl Iff.rfl (fun h1 => ?_) (fun h1 => ?_)
  · refine g_pure 1 (i' := 80) (lv' := [some (vR 800), some (vI (nI u)), some (vI (nI s)), z3, z4, z5]) (st' := [vI (nI u)]) rfl ?_
    refine g_if1 (i' := 83) (P := ¬ u = 0) rfl rfl (g_neN (show nI u = nI u from (rfl : nI u = nI u)) (show 0 = nI 0 from (show (0 : Int32) = nI 0 from rfl)) (by omega) (by omega)) (fun h2 => ?_) (fun h2 => ?_)
    · refine g_pure 1 (i' := 84) (lv' := [some (vR 800), some (vI (nI u)), some (vI (nI s)), z3, z4, z5]) (st' := [vI (nI u)]) rfl ?_
      refine g_cS1 rfl (args := [vI (nI u)]) (rest := []) rfl rfl rfl (s_317 (d := d + 1) ) ?_
      refine g_pure 3 (i' := 88) (lv' := [some (vR 800), some (vI (nI u)), some (vI (nI s)), z3, z4, z5]) (st' := [vI (nI u), vR 815, vI (bcI (nI u))]) rfl ?_
      refine g_ald rfl (g_A (a := 815) (kd := 1) (n := 256) rfl (by decide)) (by decide) (show nI u = nI u from (rfl : nI u = nI u)) (by omega) (show _ = sg 815 u from rfl) ?_
      refine g_pure 1 (i' := 90) (lv' := [some (vR 800), some (vI (nI u)), some (vI (nI s)), z3, z4, z5]) (st' := [vI (bcI (nI u) - sg 815 u)]) rfl ?_
      refine g_iret rfl ?_
      exact o1 h1 h2
    · have h2 := Classical.not_not.mp h2
      refine g_pure 2 (i' := 90) (lv' := [some (vR 800), some (vI (nI u)), some (vI (nI s)), z3, z4, z5]) (st' := [vI 0]) rfl ?_
      refine g_iret rfl ?_
      exact o2 h1 h2
  · refine g_pure 6 (i' := 36) (lv' := [some (vR 800), some (vI (nI u)), some (vI (nI s)), some (vI 0), some (vI 0), some (vI 0)]) (st' := []) rfl ?_
    exact o3 h1

theorem b_300_36 {X : Nat × (Nat → Int32)} {d : Nat} {p : Nat → Nat} {sg : Mg} {Q : am_R → Prop} {B : Nat} {S : Nat → Int32} (hI : Inv B S) (hS : sg 801 = S) {u : Nat} {s : Nat} {t : Int32} {m : Nat} {j : Nat} (u_u : u ≤ 255) (u_s : s ≤ 255) (u_m : m ≤ 255) (u_j : j ≤ 8)
    (o1 : (sn S 1 ≤ j) → (¬ t = 0) → ∀ s3 : Mg, s3 = mu sg 815 s (nI m) → gW X (d + 2) k_300 24 [some (vR 800), some (vI (nI u)), some (vI (nI (s + 1))), some (vI t), some (vI (nI m)), some (vI (nI j))] [] p s3 Q)
    (o2 : (sn S 1 ≤ j) → (t = 0) → ∀ s4 : Mg, s4 = mu sg 815 s (nI (m + 1)) → gW X (d + 2) k_300 24 [some (vR 800), some (vI (nI u)), some (vI (nI (s + 1))), some (vI t), some (vI (nI m)), some (vI (nI j))] [] p s4 Q)
    (o3 : (¬ (sn S 1 ≤ j)) → ((((nI s) >>> ((nI j) &&& 31)) &&& 1) = 1) → ∃ k, (nI s &&& ((1 <<< (nI j &&& 31)) ^^^ (-1))) = nI k ∧ k < 256)
    (o4 : (¬ (sn S 1 ≤ j)) → ((((nI s) >>> ((nI j) &&& 31)) &&& 1) = 1) → ∀ k6 : Nat, (nI s &&& ((1 <<< (nI j &&& 31)) ^^^ (-1))) = nI k6 → k6 < 256 → gW X (d + 2) k_300 36 [some (vR 800), some (vI (nI u)), some (vI (nI s)), some (vI (t + bal S j)), some (vI (if (nI m) < (sg 815 k6) then (sg 815 k6) else (nI m))), some (vI (nI (j + 1)))] [] p sg Q)
    (o5 : (¬ (sn S 1 ≤ j)) → (¬ ((((nI s) >>> ((nI j) &&& 31)) &&& 1) = 1)) → gW X (d + 2) k_300 36 [some (vR 800), some (vI (nI u)), some (vI (nI s)), some (vI t), some (vI (nI m)), some (vI (nI (j + 1)))] [] p sg Q) :
    gW X (d + 2) k_300 36 [some (vR 800), some (vI (nI u)), some (vI (nI s)), some (vI t), some (vI (nI m)), some (vI (nI j))] [] p sg Q := by
  have b0 := hI.b0; have b1 := hI.b1; have b2 := hI.b2; have b3 := hI.b3; have b4 := hI.b4; have b5 := hI.b5; have b6 := hI.b6; have b7 := hI.b7; have b8 := hI.b8; have b9 := hI.b9; have b14 := hI.b14
  refine g_pure 2 (i' := 38) (lv' := [some (vR 800), some (vI (nI u)), some (vI (nI s)), some (vI t), some (vI (nI m)), some (vI (nI j))]) (st' := [vR 800, vI (nI j)]) rfl ?_
  refine g_cV1 rfl (args := [vR 800]) (rest := [vI (nI j)]) rfl rfl rfl (s_203 (d := d + 1) hS) ?_
  refine g_if2 (i' := 66) (P := sn S 1 ≤ j) rfl rfl (g_geN (show nI j = nI j from (rfl : nI j = nI j)) (show S 1 = nI (sn S 1) from (hI.c1)) (by omega) (by omega)) (fun h1 => ?_) (fun h1 => ?_)
  · refine g_pure 4 (i' := 70) (lv' := [some (vR 800), some (vI (nI u)), some (vI (nI s)), some (vI t), some (vI (nI m)), some (vI (nI j))]) (st' := [vI t, vI (nI s), vR 815]) rfl ?_
    refine g_if1 (i' := 75) (P := ¬ t = 0) rfl rfl Iff.rfl (fun h2 => ?_) (fun h2 => ?_)
    · refine g_pure 1 (i' := 76) (lv' := [some (vR 800), some (vI (nI u)), some (vI (nI s)), some (vI t), some (vI (nI m)), some (vI (nI j))]) (st' := [vI (nI m), vI (nI s), vR 815]) rfl ?_
      refine g_ast rfl (g_A (a := 815) (kd := 1) (n := 256) rfl (by decide)) (by decide) (show nI s = nI s from (rfl : nI s = nI s)) (by omega) ?_
      refine g_setv (fun s3 es3 => ?_)
      have hSs3 : s3 801 = S := by rw [es3, mu_ne (by decide), hS]
      refine g_pure 2 (i' := 24) (lv' := [some (vR 800), some (vI (nI u)), some (vI (nI s + 1)), some (vI t), some (vI (nI m)), some (vI (nI j))]) (st' := []) rfl ?_
      refine gW_eq (lv' := [some (vR 800), some (vI (nI u)), some (vI (nI (s + 1))), some (vI t), some (vI (nI m)), some (vI (nI j))]) (st' := []) (by rw [(show (nI s + 1) = nI (s + 1) from ((g_add (rfl : nI s = nI s) (show (1 : Int32) = nI 1 from rfl))).trans (congrArg nI (by omega)))]) rfl rfl ?_
      exact o1 h1 h2 s3 es3
    · have h2 := Classical.not_not.mp h2
      refine g_pure 4 (i' := 76) (lv' := [some (vR 800), some (vI (nI u)), some (vI (nI s)), some (vI t), some (vI (nI m)), some (vI (nI j))]) (st' := [vI (nI m + 1), vI (nI s), vR 815]) rfl ?_
      refine gW_eq (lv' := [some (vR 800), some (vI (nI u)), some (vI (nI s)), some (vI t), some (vI (nI m)), some (vI (nI j))]) (st' := [vI (nI (m + 1)), vI (nI s), vR 815]) rfl (by rw [(show (nI m + 1) = nI (m + 1) from ((g_add (rfl : nI m = nI m) (show (1 : Int32) = nI 1 from rfl))).trans (congrArg nI (by omega)))]) rfl ?_
      refine g_ast rfl (g_A (a := 815) (kd := 1) (n := 256) rfl (by decide)) (by decide) (show nI s = nI s from (rfl : nI s = nI s)) (by omega) ?_
      refine g_setv (fun s4 es4 => ?_)
      have hSs4 : s4 801 = S := by rw [es4, mu_ne (by decide), hS]
      refine g_pure 2 (i' := 24) (lv' := [some (vR 800), some (vI (nI u)), some (vI (nI s + 1)), some (vI t), some (vI (nI m)), some (vI (nI j))]) (st' := []) rfl ?_
      refine gW_eq (lv' := [some (vR 800), some (vI (nI u)), some (vI (nI (s + 1))), some (vI t), some (vI (nI m)), some (vI (nI j))]) (st' := []) (by rw [(show (nI s + 1) = nI (s + 1) from ((g_add (rfl : nI s = nI s) (show (1 : Int32) = nI 1 from rfl))).trans (congrArg nI (by omega)))]) rfl rfl ?_
      exact o2 h1 h2 s4 es4
  · refine g_pure 2 (i' := 42) (lv' := [some (vR 800), some (vI (nI u)), some (vI (nI s)), some (vI t), some (vI (nI m)), some (vI (nI j))]) (st' := [vI (nI j), vI (nI s)]) rfl ?_
    refine g_cS1 rfl (args := [vI (nI s), vI (nI j)]) (rest := []) rfl rfl rfl (s_201 (d := d + 1) ) ?_
    refine g_if1 (i' := 45) (P := (((nI s) >>> ((nI j) &&& 31)) &&& 1) = 1) rfl rfl g_neB (fun h5 => ?_) (fun h5 => ?_)
    · refine g_pure 3 (i' := 48) (lv' := [some (vR 800), some (vI (nI u)), some (vI (nI s)), some (vI t), some (vI (nI m)), some (vI (nI j))]) (st' := [vI (nI j), vR 800, vI t]) rfl ?_
      refine g_cV1 rfl (args := [vR 800, vI (nI j)]) (rest := [vI t]) rfl rfl rfl (s_301 (d := d) hI hS (by omega)) ?_
      refine g_pure 12 (i' := 61) (lv' := [some (vR 800), some (vI (nI u)), some (vI (nI s)), some (vI (t + bal S j)), some (vI (nI m)), some (vI (nI j))]) (st' := [vI (nI s &&& ((1 <<< (nI j &&& 31)) ^^^ (-1))), vR 815, vI (nI m)]) rfl ?_
      obtain ⟨k6, ek6, lk6⟩ := o3 h1 h5
      refine g_ald rfl (g_A (a := 815) (kd := 1) (n := 256) rfl (by decide)) (by decide) (show (nI s &&& ((1 <<< (nI j &&& 31)) ^^^ (-1))) = nI k6 from ek6) (by omega) (show _ = sg 815 k6 from rfl) ?_
      refine g_cS1 rfl (args := [vI (nI m), vI (sg 815 k6)]) (rest := []) rfl rfl rfl (s_316 (d := d + 1) ) ?_
      refine g_pure 3 (i' := 36) (lv' := [some (vR 800), some (vI (nI u)), some (vI (nI s)), some (vI (t + bal S j)), some (vI (if (nI m) < (sg 815 k6) then (sg 815 k6) else (nI m))), some (vI (nI j + 1))]) (st' := []) rfl ?_
      refine gW_eq (lv' := [some (vR 800), some (vI (nI u)), some (vI (nI s)), some (vI (t + bal S j)), some (vI (if (nI m) < (sg 815 k6) then (sg 815 k6) else (nI m))), some (vI (nI (j + 1)))]) (st' := []) (by rw [(show (nI j + 1) = nI (j + 1) from ((g_add (rfl : nI j = nI j) (show (1 : Int32) = nI 1 from rfl))).trans (congrArg nI (by omega)))]) rfl rfl ?_
      exact o4 h1 h5 k6 ek6 lk6
    · refine g_pure 3 (i' := 36) (lv' := [some (vR 800), some (vI (nI u)), some (vI (nI s)), some (vI t), some (vI (nI m)), some (vI (nI j + 1))]) (st' := []) rfl ?_
      refine gW_eq (lv' := [some (vR 800), some (vI (nI u)), some (vI (nI s)), some (vI t), some (vI (nI m)), some (vI (nI (j + 1)))]) (st' := []) (by rw [(show (nI j + 1) = nI (j + 1) from ((g_add (rfl : nI j = nI j) (show (1 : Int32) = nI 1 from rfl))).trans (congrArg nI (by omega)))]) rfl rfl ?_
      exact o5 h1 h5

/-- who is uneven; and the fewest payments -/
def unP (S : Nat → Int32) (p : Nat) : Bool := decide (¬ bal S p = 0)
def unS (S : Nat → Int32) : Nat := bset (unP S) (sn S 1)
def fpV (S : Nat → Int32) : Int32 := bcI (nI (unS S)) - nI (evT (bal S) (sn S 1) (2 ^ sn S 1) (unS S))
theorem bset_up {P : Nat → Bool} {n m : Nat} (hn : n ≤ m) : bset P n < 2 ^ m := Nat.lt_of_lt_of_le (bset_lt P n) (Nat.pow_le_pow_right (by decide) hn)
theorem unS_step {S : Nat → Int32} {j : Nat} (h : ¬ bal S j = 0) : bset (unP S) (j + 1) = bset (unP S) j ||| 2 ^ j := by
  show (if unP S j = true then _ else _) = _
  unfold unP
  rw [if_pos (decide_eq_true h)]
theorem unS_same {S : Nat → Int32} {j : Nat} (h : bal S j = 0) : bset (unP S) (j + 1) = bset (unP S) j := by
  show (if unP S j = true then _ else _) = _
  unfold unP
  rw [if_neg (by rw [decide_eq_true_iff]; exact fun h9 => h9 h)]
theorem pw_inj {a b : Nat} (h : 2 ^ a = 2 ^ b) : a = b := by
  rcases Nat.lt_trichotomy a b with h1 | h1 | h1
  · have := pow_lt2 h1; omega
  · exact h1
  · have := pow_lt2 h1; omega
theorem pw8 : ∀ n, n < 9 → 2 ^ n ≤ 256 := by decide
theorem pw7 {j : Nat} (h : j < 8) : 2 ^ j < 256 := pow_lt2 (n := 8) h
/-- what lies in the class's rows -/
def nsC (f : Nat → Int32) (n : Nat) (sg s : Mg) (t : Nat) : Prop := (∀ c, c ≠ 22 → c ≠ 23 → s c = sg c) ∧ (∀ q, q < n → s 22 (2 ^ q) = f q) ∧ (∀ q, 1 ≤ q → q < t → s 22 q = sumI (smsF f q) n) ∧ ∀ q, q < t → s 23 q = nI (evT f n t q)
theorem evT_lt {f : Nat → Int32} {n t q : Nat} (h : q < t) : evT f n (t + 1) q = evT f n t q := if_neg (fun h9 => by omega)
theorem evT_at {f : Nat → Int32} {n t : Nat} (h : 1 ≤ t) : evT f n (t + 1) t = evO f n (evT f n t) t := if_pos ⟨rfl, by omega⟩
theorem l_62_9 {X : Nat × (Nat → Int32)} {d : Nat} {p : Nat → Nat} {sg : Mg} {B : Nat} {S : Nat → Int32} (hI : Inv B S) (hL : cwL 250 sg S) (hD : cwD 200 sg S) {Q : am_R → Prop} (x : ∀ s z5, (∀ c, c ≠ 22 → s c = sg c) → (∀ q, q < sn S 1 → s 22 (2 ^ q) = bal S q) → gW X (d + 2) k_62 41 [some (vR 21), some (vR 202), some (vI (nI (sn S 1))), some (vI (nI (unS S))), some (vI (nI 1)), z5] [] p s Q) :
    gW X (d + 2) k_62 9 [some (vR 21), some (vR 202), some (vI (nI (sn S 1))), some (vI (nI 0)), some (vI (nI 0)), none] [] p sg Q := by
  have b1 := hI.b1
  have key := g_upI (P := fun j => ∀ s z5, (∀ c, c ≠ 22 → s c = sg c) → (∀ q, q < j → s 22 (2 ^ q) = bal S q) → gW X (d + 2) k_62 9 [some (vR 21), some (vR 202), some (vI (nI (sn S 1))), some (vI (nI (bset (unP S) j))), some (vI (nI j)), z5] [] p s Q) (I := fun _ => True) (n := sn S 1) (a := 0) (by omega) trivial ?_ ?_
  · exact key sg none (fun _ _ => rfl) (fun q hq => absurd hq (Nat.not_lt_zero _))
  · intro j _ hj _ ih s z5 hs h2
    have ih := ih trivial
    have hL2 : cwL 250 s S := hL.eqc (fun c c1 c2 => hs c (by omega))
    have hD2 : cwD 200 s S := hD.eqc (fun c c1 => hs c (by omega))
    have e1 : (1 : Int32) <<< (nI j &&& 31) = nI (2 ^ j) := nI_shl1 (by omega)
    have l1 := pw7 (show j < 8 by omega)
    have bu := bset_up (P := unP S) (n := j) (m := 8) (by omega)
    have h2' : ∀ q, q < j + 1 → (mu s 22 (2 ^ j) (bal S j)) 22 (2 ^ q) = bal S q := fun q hq => by
      by_cases e : q = j
      · subst e; rw [mu_self]
      · rw [mu_idx (fun h9 => e (pw_inj h9))]; exact h2 q (by omega)
    have hs' : ∀ c, c ≠ 22 → (mu s 22 (2 ^ j) (bal S j)) c = sg c := fun c hc => by rw [mu_ne hc]; exact hs c hc
    refine b_62_9 hI hL2 hD2 (by omega) (by omega) (by omega) (fun h => by omega) (fun _ => ⟨_, e1, l1⟩) (fun _ k2 e2 l2 s3 e3 => ⟨_, e1, l1⟩) (fun _ k2 e2 l2 s3 e3 k4 e4 l4 h => ?_) (fun _ k2 e2 l2 s3 e3 k4 e4 l4 h => ?_)
    all_goals
      have : k2 = 2 ^ j := by rw [e1, nI_eq (by omega) (by omega)] at e2; exact e2.symm
      subst this
      have : k4 = 2 ^ j := by rw [e1, nI_eq (by omega) (by omega)] at e4; exact e4.symm
      subst this
      rw [e3, mu_self] at h
      subst e3
    · rw [show (nI (bset (unP S) j) ||| 0) = nI (bset (unP S) (j + 1)) by rw [unS_same h]; simp]
      exact ih _ _ hs' h2'
    · rw [e1, nI_or, ← unS_step h]
      exact ih _ _ hs' h2'
  · intro _ s z5 hs h2
    have hL2 : cwL 250 s S := hL.eqc (fun c c1 c2 => hs c (by omega))
    have hD2 : cwD 200 s S := hD.eqc (fun c c1 => hs c (by omega))
    have bu := bset_up (P := unP S) (n := sn S 1) (m := 8) (by omega)
    exact b_62_9 hI hL2 hD2 (by omega) (by omega) (by omega) (fun _ => x s _ hs h2) (fun h => by omega) (fun h => by omega) (fun h => by omega) (fun h => by omega)
theorem l_62_41 {X : Nat × (Nat → Int32)} {d : Nat} {p : Nat → Nat} {sg : Mg} {Q : am_R → Prop} {f : Nat → Int32} {n u : Nat} (hn : n ≤ 8) (hu : u < 2 ^ n) {z1 z5 : Option AV} (h0 : sg 23 0 = 0) (h2 : ∀ q, q < n → sg 22 (2 ^ q) = f q)
    (x : ∀ s, (∀ c, c ≠ 22 → c ≠ 23 → s c = sg c) → s 23 0 = 0 → Q (gRv p s (bcI (nI u) - nI (evT f n (2 ^ n) u)))) :
    gW X (d + 2) k_62 41 [some (vR 21), z1, some (vI (nI n)), some (vI (nI u)), some (vI (nI 1)), z5] [] p sg Q := by
  have p8 := pw8 n (by omega)
  have p1 : 1 ≤ 2 ^ n := Nat.one_le_two_pow
  have eN : (1 : Int32) <<< (nI n &&& 31) = nI (2 ^ n) := nI_shl1 (by omega)
  have key := g_upI (P := fun t => ∀ s z5, nsC f n sg s t → gW X (d + 2) k_62 41 [some (vR 21), z1, some (vI (nI n)), some (vI (nI u)), some (vI (nI t)), z5] [] p s Q) (I := fun _ => True) (n := 2 ^ n) (a := 1) p1 trivial ?_ ?_
  · exact key sg z5 ⟨fun _ _ _ => rfl, h2, fun q h1 h2 => by omega, fun q hq => by rw [show q = 0 by omega, evT_0]; exact h0⟩
  · intro t h1 ht _ ih s z5 hs
    have ih := ih trivial
    obtain ⟨a1, a2, a3, a4⟩ := hs
    obtain ⟨w1, w2, w3⟩ := x_low t (by omega) (by omega)
    generalize fnd (fun p => t.testBit p) 8 0 = q at w1 w2 w3
    have hq : q < n := by
      rcases Nat.lt_or_ge q n with h9 | h9
      · exact h9
      · rw [Nat.testBit_lt_two_pow (Nat.lt_of_lt_of_le ht (Nat.pow_le_pow_right (by decide) h9))] at w3; cases w3
    have l1 := pw7 w2
    have lx := x_lt t (by omega) q w2 w3
    have ex : (nI t ^^^ nI (2 ^ q)) = nI (t ^^^ 2 ^ q) := nI_xor _ _
    have fin : ∀ s5 z5, (∀ c, c ≠ 22 → c ≠ 23 → s5 c = sg c) → (∀ q, q < n → s5 22 (2 ^ q) = f q) → (∀ q, 1 ≤ q → q < t + 1 → s5 22 q = sumI (smsF f q) n) → (∀ q, q < t → s5 23 q = nI (evT f n t q)) → gW X (d + 2) k_62 69 [some (vR 21), z1, some (vI (nI n)), some (vI (nI u)), some (vI (nI t)), z5] [] p s5 Q := by
      intro s5 z5 c1 c2 c3 c4
      refine g_pure 6 (i' := 75) (lv' := [some (vR 21), z1, some (vI (nI n)), some (vI (nI u)), some (vI (nI t)), z5]) (st' := [vI (nI n), vI (nI t), vR 21, vI (nI t), vR 23]) rfl ?_
      refine g_cV1 rfl (args := [vR 21, vI (nI t), vI (nI n)]) (rest := [vI (nI t), vR 23]) rfl rfl rfl (s_64 (d := d) (E := evT f n t) (by omega) (by omega) hn (fun q _ => evT_le hn t (by omega) q) c4) ?_
      refine g_ast rfl (g_A (a := 23) (kd := 1) (n := 256) rfl (by decide)) (by decide) (show nI t = nI t from rfl) (by omega) ?_
      refine g_pure 2 (i' := 41) (lv' := [some (vR 21), z1, some (vI (nI n)), some (vI (nI u)), some (vI (nI t + 1)), z5]) (st' := []) rfl ?_
      refine gW_eq (lv' := [some (vR 21), z1, some (vI (nI n)), some (vI (nI u)), some (vI (nI (t + 1))), z5]) (by rw [nI_succ]) rfl rfl ?_
      refine ih _ _ ⟨fun c g1 g2 => by rw [mu_ne g2]; exact c1 c g1 g2, fun q hq => by rw [mu_ne (by decide)]; exact c2 q hq, fun q g1 g2 => by rw [mu_ne (by decide)]; exact c3 q g1 g2, fun q hq => ?_⟩
      by_cases e : q = t
      · subst e
        rw [mu_self, evT_at h1, c3 q h1 (by omega)]
        rfl
      · rw [mu_idx e, evT_lt (by omega)]
        exact c4 q (by omega)
    refine b_62_41 hn (by have := Nat.le_of_lt hu; omega) (by omega) (by omega) (fun h => ?_) (fun _ h => ?_) (fun _ h => ⟨_, w1, l1⟩) (fun _ h k3 e3 l3 => ⟨_, by rw [w1, ex], by omega⟩) (fun _ h k3 e3 l3 k4 e4 l4 s5 e5 => ?_)
    · rw [eN, nI_leI (by omega) (by omega)] at h; omega
    · refine fin _ _ a1 a2 (fun q' g1 g2 => ?_) a4
      rw [w1, nI_eq (by omega) (by omega)] at h
      by_cases e : q' = t
      · rw [e, h, sms_one hq]; exact a2 q hq
      · exact a3 q' g1 (by omega)
    · rw [w1] at h e3 e4
      rw [nI_eq (by omega) (by omega)] at h e3
      rw [ex, nI_eq (by omega) (by omega)] at e4
      subst e3 e4 e5
      have hx0 : 1 ≤ t ^^^ 2 ^ q := by
        rcases Nat.eq_zero_or_pos (t ^^^ 2 ^ q) with h9 | h9
        · exact absurd (by have h8 := congrArg (fun z => z ^^^ 2 ^ q) h9; simpa [Nat.xor_assoc] using h8) h
        · exact h9
      have hv : s 22 (2 ^ q) + s 22 (t ^^^ 2 ^ q) = sumI (smsF f t) n := by
        rw [a2 q hq, a3 _ hx0 lx, sms_split w3, if_pos hq]
      rw [hv]
      refine fin _ _ (fun c g1 g2 => by rw [mu_ne g1]; exact a1 c g1 g2) (fun q' hq' => ?_) (fun q' g1 g2 => ?_) (fun q' hq' => by rw [mu_ne (by decide)]; exact a4 q' hq')
      · by_cases e : 2 ^ q' = t
        · rw [e, mu_self, ← e, sms_one hq']
        · rw [mu_idx e]; exact a2 q' hq'
      · by_cases e : q' = t
        · rw [e, mu_self]
        · rw [mu_idx e]; exact a3 q' g1 (by omega)
  · intro _ s z5 hs
    obtain ⟨a1, a2, a3, a4⟩ := hs
    refine b_62_x hn (by omega) (by omega) (fun h => ?_) (fun h => ?_)
    · rw [a4 u hu]
      refine x s a1 ?_
      have := a4 0 (by omega)
      rw [evT_0] at this
      exact this
    · rw [eN] at h; exact absurd (Int32.le_refl _) h
theorem s_62 {X : Nat × (Nat → Int32)} {d : Nat} {p : Nat → Nat} {sg : Mg} {B : Nat} {S : Nat → Int32} (hI : Inv B S) (hL : cwL 250 sg S) (hD : cwD 200 sg S) (h0 : sg 23 0 = 0) : gF X (d + 3) 62 [vR 21, vR 202] p sg (fun r => ∃ s, ((∀ c, c ≠ 22 → c ≠ 23 → s c = sg c) ∧ s 23 0 = 0) ∧ r = gRv p s (fpV S)) := by
  have b1 := hI.b1
  refine g_in (cd := k_62) (nL := 6) (rc := 8) rfl (g_A (a := 21) (kd := 0) (n := 7) rfl (by decide)) (g_c1 rfl) (b_62_0 hI hL hD ?_)
  rw [hI.c1]
  refine l_62_9 hI hL hD (fun s z5 hs h2 => ?_)
  refine l_62_41 b1 (bset_lt _ _) (by rw [hs 23 (by decide)]; exact h0) h2 (fun s' h' h0' => ⟨s', ⟨fun c c1 c2 => by rw [h' c c1 c2, hs c c1], h0'⟩, rfl⟩)

def RCx (A : AS) (p : Nat → Nat) (sg s : Mg) : Prop := RC A p sg → RC A p s
/-- beside what is netted nothing has changed -/
theorem RC.ev {A : AS} {p : Nat → Nat} {sg s : Mg} (hR : RC A p sg) (n12 : A.n ≤ 12) (e : ∀ c, relC c → c ≠ 23 → s c = sg c) (h : s 23 0 = 0) : RC A p s := by
  obtain ⟨r1, r2, r3, r4, r5, r6, r7, r8, r9, r10⟩ := hR
  unfold relC at e
  refine ⟨r1, r2.eqc (fun c c1 c2 c3 => e c (by omega) (by omega)), ?_, fun i hi => ?_, ?_, fun hf => (r6 hf).eqc (fun c c1 c2 c3 => e c (by omega) (by omega)), ?_, fun i hi => ?_, ?_, h⟩
  · rw [e 0 (by omega) (by omega)]; exact r3
  · have := r1.1 i (by omega)
    exact cwL.eqc (r4 i hi) (fun c c1 c2 => e c (by omega) (by omega))
  · rw [e 0 (by omega) (by omega)]; exact r5
  · rw [e 1 (by omega) (by omega)]; exact r7
  · rw [e 2 (by omega) (by omega)]; exact r8 i hi
  · rw [e 1 (by omega) (by omega)]; exact r9
theorem RM.ev {A : AS} {sg s : Mg} (hR : RM A sg) (e : ∀ c, c = 801 ∨ c = 802 ∨ c = 804 ∨ c = 805 → s c = sg c) (e2 : ∀ k, k = 5 ∨ k = 6 ∨ k = 8 ∨ k = 13 → s 800 k = sg 800 k) (h : s 815 0 = 0) : RM A s := by
  obtain ⟨r1, r2, r3, r4, r5, r6, r7, r8, r9⟩ := hR
  refine ⟨?_, ?_, fun i j hi hj => ?_, ?_, fun hf j hj => ?_, ?_, fun i hi => ?_, ?_, h⟩
  · rw [e 801 (by omega)]; exact r1
  · rw [e2 6 (by omega)]; exact r2
  · rw [e 804 (by omega)]; exact r3 i j hi hj
  · rw [e2 5 (by omega)]; exact r4
  · rw [e 802 (by omega)]; exact r5 hf j hj
  · rw [e2 8 (by omega)]; exact r6
  · rw [e 805 (by omega)]; exact r7 i hi
  · rw [e2 13 (by omega)]; exact r8
/-- the reference's payments -/
def nsM (f : Nat → Int32) (n : Nat) (sg s : Mg) (t : Nat) : Prop := (∀ c, c ≠ 815 → s c = sg c) ∧ ∀ q, q < t → s 815 q = nI (evT f n t q)
theorem l_300_4 {X : Nat × (Nat → Int32)} {d : Nat} {p : Nat → Nat} {sg : Mg} {B : Nat} {S : Nat → Int32} (hI : Inv B S) (hS : sg 801 = S) {Q : am_R → Prop} {z3 z4 z5 : Option AV} (x : gW X (d + 2) k_300 24 [some (vR 800), some (vI (nI (unS S))), some (vI (nI 1)), z3, z4, z5] [] p sg Q) :
    gW X (d + 2) k_300 4 [some (vR 800), some (vI (nI 0)), some (vI (nI 0)), z3, z4, z5] [] p sg Q := by
  have b1 := hI.b1
  have key := g_upI (P := fun j => gW X (d + 2) k_300 4 [some (vR 800), some (vI (nI (bset (unP S) j))), some (vI (nI j)), z3, z4, z5] [] p sg Q) (I := fun _ => True) (n := sn S 1) (a := 0) (by omega) trivial ?_ ?_
  · exact key
  · intro j _ hj _ ih
    have ih := ih trivial
    have bu := bset_up (P := unP S) (n := j) (m := 8) (by omega)
    refine b_300_4 hI hS (by omega) (by omega) (fun h => by omega) (fun _ h => ?_) (fun _ h => ?_)
    · rw [show (nI (bset (unP S) j) ||| 0) = nI (bset (unP S) (j + 1)) by rw [unS_same h]; simp]
      exact ih
    · rw [nI_shl1 (by omega), nI_or, ← unS_step h]
      exact ih
  · intro _
    have bu := bset_up (P := unP S) (n := sn S 1) (m := 8) (by omega)
    exact b_300_4 hI hS (by omega) (by omega) (fun _ => x) (fun h => by omega) (fun h => by omega)
/-- one set -/
theorem l_300_36 {X : Nat × (Nat → Int32)} {d : Nat} {p : Nat → Nat} {sg : Mg} {B : Nat} {S : Nat → Int32} (hI : Inv B S) (hS : sg 801 = S) {Q : am_R → Prop} {u s : Nat} {E : Nat → Nat} (hu : u ≤ 255) (h0 : 0 < s) (hs : s ≤ 255) (hE : ∀ q, q < s → E q ≤ q) (hM : ∀ q, q < s → sg 815 q = nI (E q))
    (x : ∀ z3 z4 z5, gW X (d + 2) k_300 24 [some (vR 800), some (vI (nI u)), some (vI (nI (s + 1))), z3, z4, z5] [] p (mu sg 815 s (nI (evO (bal S) (sn S 1) E s))) Q) :
    gW X (d + 2) k_300 36 [some (vR 800), some (vI (nI u)), some (vI (nI s)), some (vI (nI 0)), some (vI (nI 0)), some (vI (nI 0))] [] p sg Q := by
  have b1 := hI.b1
  have hm : ∀ j, j ≤ sn S 1 → mxB E s j < s := fun j hj => mxB_lt (by omega) h0 hE j (by omega)
  have key := g_upI (P := fun j => gW X (d + 2) k_300 36 [some (vR 800), some (vI (nI u)), some (vI (nI s)), some (vI (sumI (smsF (bal S) s) j)), some (vI (nI (mxB E s j))), some (vI (nI j))] [] p sg Q) (I := fun _ => True) (n := sn S 1) (a := 0) (by omega) trivial ?_ ?_
  · exact key
  · intro j _ hj _ ih
    have ih := ih trivial
    have h9 := hm j (by omega)
    refine b_300_36 hI hS hu hs (by omega) (by omega) (fun h => by omega) (fun h => by omega) (fun _ h => ?_) (fun _ h k6 e6 l6 => ?_) (fun _ h => ?_)
    · have hb := (nI_bit1 (by omega) (by omega)).mp h
      exact ⟨_, x_and s (by omega) j (by omega) hb, by have := x_lt s (by omega) j (by omega) hb; omega⟩
    · have hb := (nI_bit1 (by omega) (by omega)).mp h
      have hx := x_lt s (by omega) j (by omega) hb
      rw [x_and s (by omega) j (by omega) hb, nI_eq (by omega) (by omega)] at e6
      subst e6
      have e : mxB E s (j + 1) = max (mxB E s j) (E (s ^^^ 2 ^ j)) := by show (if s.testBit j = true then _ else _) = _; rw [hb]; rfl
      have e2 : sumI (smsF (bal S) s) (j + 1) = sumI (smsF (bal S) s) j + bal S j := by show _ + smsF (bal S) s j = _; unfold smsF; rw [hb, if_pos rfl]
      rw [nI_maxE (hM _ hx) (by omega) (by have := hE _ hx; omega), ← e, ← e2]
      exact ih
    · rw [nI_bit1 (by omega) (by omega)] at h
      have e : mxB E s (j + 1) = mxB E s j := by show (if s.testBit j = true then _ else _) = _; rw [if_neg h]
      have e2 : sumI (smsF (bal S) s) (j + 1) = sumI (smsF (bal S) s) j := by show _ + smsF (bal S) s j = _; unfold smsF; rw [if_neg h, Int32.add_zero]
      rw [e, e2] at ih
      exact ih
  · intro _
    have h9 := hm (sn S 1) (Nat.le_refl _)
    refine b_300_36 hI hS hu hs (by omega) (by omega) (fun _ h s3 e3 => ?_) (fun _ h s3 e3 => ?_) (fun h => by omega) (fun h => by omega) (fun h => by omega)
    · rw [e3]
      have := x (some (vI (sumI (smsF (bal S) s) (sn S 1)))) (some (vI (nI (mxB E s (sn S 1))))) (some (vI (nI (sn S 1))))
      unfold evO at this
      rw [if_neg h] at this
      exact this
    · rw [e3]
      have := x (some (vI (sumI (smsF (bal S) s) (sn S 1)))) (some (vI (nI (mxB E s (sn S 1))))) (some (vI (nI (sn S 1))))
      unfold evO at this
      rw [if_pos h] at this
      exact this
theorem s_300 {X : Nat × (Nat → Int32)} {d : Nat} {p : Nat → Nat} {sg : Mg} {B : Nat} {S : Nat → Int32} (hI : Inv B S) (hS : sg 801 = S) (h0 : sg 815 0 = 0) : gF X (d + 3) 300 [vR 800] p sg (fun r => ∃ s, ((∀ c, c ≠ 815 → s c = sg c) ∧ s 815 0 = 0) ∧ r = gRv p s (fpV S)) := by
  have b1 := hI.b1
  have p8 := pw8 (sn S 1) (by omega)
  have p1 : 1 ≤ 2 ^ sn S 1 := Nat.one_le_two_pow
  have hu : unS S < 2 ^ sn S 1 := bset_lt _ _
  have eN : (1 : Int32) <<< (S 1 &&& 31) = nI (2 ^ sn S 1) := by rw [hI.c1]; exact nI_shl1 (by omega)
  refine g_in (cd := k_300) (nL := 6) (rc := 13) rfl (g_A (a := 800) (kd := 0) (n := 12) rfl (by decide)) (g_c1 rfl) (b_300_0 hI hS (l_300_4 hI hS ?_))
  have key := g_upI (P := fun t => ∀ s z3 z4 z5, nsM (bal S) (sn S 1) sg s t → gW X (d + 2) k_300 24 [some (vR 800), some (vI (nI (unS S))), some (vI (nI t)), z3, z4, z5] [] p s (fun r => ∃ s, ((∀ c, c ≠ 815 → s c = sg c) ∧ s 815 0 = 0) ∧ r = gRv p s (fpV S))) (I := fun _ => True) (n := 2 ^ sn S 1) (a := 1) p1 trivial ?_ ?_
  · exact key sg none none none ⟨fun _ _ => rfl, fun q hq => by rw [show q = 0 by omega, evT_0]; exact h0⟩
  · intro t h1 ht _ ih s z3 z4 z5 hs
    have ih := ih trivial
    obtain ⟨a1, a2⟩ := hs
    have hS2 : s 801 = S := by rw [a1 801 (by decide)]; exact hS
    refine b_300_24 hI hS2 (by omega) (by omega) (fun h => ?_) (fun h => ?_) (fun h => ?_)
    · rw [eN, nI_leI (by omega) (by omega)] at h; omega
    · rw [eN, nI_leI (by omega) (by omega)] at h; omega
    · refine l_300_36 hI hS2 (E := evT (bal S) (sn S 1) t) (by omega) (by omega) (by omega) (fun q _ => evT_le b1 t (by omega) q) a2 (fun z3 z4 z5 => ?_)
      refine ih _ _ _ _ ⟨fun c hc => by rw [mu_ne hc]; exact a1 c hc, fun q hq => ?_⟩
      by_cases e : q = t
      · subst e
        rw [mu_self, evT_at h1]
      · rw [mu_idx e, evT_lt (by omega)]
        exact a2 q (by omega)
  · intro _ s z3 z4 z5 hs
    obtain ⟨a1, a2⟩ := hs
    have hS2 : s 801 = S := by rw [a1 801 (by decide)]; exact hS
    have a0 : s 815 0 = 0 := by have := a2 0 (by omega); rw [evT_0] at this; exact this
    refine b_300_24 hI hS2 (by omega) (by omega) (fun h hz => ?_) (fun h hz => ?_) (fun h => ?_)
    · rw [a2 _ hu]
      exact ⟨s, ⟨a1, a0⟩, rfl⟩
    · refine ⟨s, ⟨a1, a0⟩, ?_⟩
      unfold fpV
      rw [hz, evT_0]
      rfl
    · rw [eN] at h; exact absurd (Int32.le_refl _) h

theorem b_174_0 {X : Nat × (Nat → Int32)} {d : Nat} {p : Nat → Nat} {sg : Mg} {Q : am_R → Prop} {B : Nat} {S : Nat → Int32} (hI : Inv B S) (hL : cwL 250 sg S) (hD : cwD 200 sg S) {x : Int32}
    (o1 : (¬ x = (-1)) → ∀ n3 : Nat, x = nI n3 → n3 < sn S 1 → Q (gRv p sg (bal S n3)))
    (o2 : (¬ x = (-1)) → (¬ okx x (sn S 1)) → Q (gRx p sg 2))
    (o3 : (x = (-1)) → gW X (d + 4) k_174 3 [some (vR 0), some (vI x)] [] p sg Q) :
    gW X (d + 4) k_174 0 [some (vR 0), some (vI x)] [] p sg Q := by
  have b0 := hI.b0; have b1 := hI.b1; have b2 := hI.b2; have b3 := hI.b3; have b4 := hI.b4; have b5 := hI.b5; have b6 := hI.b6; have b7 := hI.b7; have b8 := hI.b8; have b9 := hI.b9; have b14 := hI.b14
  refine g_pure 2 (i' := 2) (lv' := [some (vR 0), some (vI x)]) (st' := [vI (-1), vI x]) rfl ?_
  refine g_if2 (i' := 10) (P := ¬ x = (-1)) rfl rfl Iff.rfl (fun h1 => ?_) (fun h1 => ?_)
  · refine g_pure 3 (i' := 13) (lv' := [some (vR 0), some (vI x)]) (st' := [vI x, vI 1, vR 0]) rfl ?_
    by_cases h2 : okx x (sn S 1)
    · obtain ⟨n3, ln3, en3⟩ := okx_of h2
      subst en3
      refine gW_eq (st' := [vI (nI n3), vI (nI 1), vR 0]) rfl (by rw [(show (1 : Int32) = nI 1 from rfl)]) rfl ?_
      refine g_cV0 rfl (args := [vR 0, vI (nI 1), vI (nI n3)]) (rest := []) rfl rfl rfl (s_140o (d := d + 2) hI hL hD (by omega) ((okx_nI (by omega)).mpr (by omega))) ?_
      refine g_pure 6 (i' := 20) (lv' := [some (vR 0), some (vI (nI n3))]) (st' := [vI (nI n3), vR 202, vR 21]) rfl ?_
      refine g_cV1 rfl (args := [vR 21, vR 202, vI (nI n3)]) (rest := []) rfl rfl rfl (s_63 (d := d + 3) hI hL hD (by omega)) ?_
      refine g_iret rfl ?_
      exact o1 h1 n3 rfl ln3
    · refine gW_eq (st' := [vI x, vI (nI 1), vR 0]) rfl (by rw [(show (1 : Int32) = nI 1 from rfl)]) rfl ?_
      refine g_cVx rfl (args := [vR 0, vI (nI 1), vI x]) (rest := []) rfl rfl rfl (s_140x (d := d + 2) hI hL hD (by omega) (by assumption)) ?_
      exact o2 h1 h2
  · have h1 := Classical.not_not.mp h1
    exact o3 h1

theorem b_299_m {X : Nat × (Nat → Int32)} {d : Nat} {p : Nat → Nat} {sg : Mg} {Q : am_R → Prop} {B : Nat} {S : Nat → Int32} (hI : Inv B S) (hS : sg 801 = S)
    (o1 : ∀ s1 : Mg, s1 = mu sg 800 0 0 → gW X (d + 5) k_299 21 [some (vR 800), some (vI (-1))] [vI (-1), vI (-1)] p s1 Q) :
    gW X (d + 5) k_299 0 [some (vR 800), some (vI (-1))] [] p sg Q := by
  have b0 := hI.b0; have b1 := hI.b1; have b2 := hI.b2; have b3 := hI.b3; have b4 := hI.b4; have b5 := hI.b5; have b6 := hI.b6; have b7 := hI.b7; have b8 := hI.b8; have b9 := hI.b9; have b14 := hI.b14
  refine g_pure 2 (i' := 2) (lv' := [some (vR 800), some (vI (-1))]) (st' := [vI 0, vR 800]) rfl ?_
  refine g_putI rfl (g_A (a := 800) (kd := 0) (n := 12) rfl (by decide)) ?_
  refine g_setv (fun s1 es1 => ?_)
  have hSs1 : s1 801 = S := by rw [es1, mu_ne (by decide), hS]
  refine g_pure 3 (i' := 6) (lv' := [some (vR 800), some (vI (-1))]) (st' := [vI (-1), vI (-1), vR 800]) rfl ?_
  refine g_if2 (i' := 13) (P := ((-1) : Int32) = (-1)) rfl rfl Iff.rfl (fun _ => ?_) (fun h2 => absurd (by decide) h2)
  refine g_pure 2 (i' := 15) (lv' := [some (vR 800), some (vI (-1))]) (st' := [vI 1, vI 0, vR 800]) rfl ?_
  refine gW_eq (st' := [vI (nI 1), vI 0, vR 800]) rfl (by rw [(show (1 : Int32) = nI 1 from rfl)]) rfl ?_
  refine g_cV1 rfl (args := [vR 800, vI 0, vI (nI 1)]) (rest := []) rfl rfl rfl (s_227f (d := d + 4) (by omega)) ?_
  refine g_if1 (i' := 19) (P := 0 = 0) rfl rfl (g_eqN (show 0 = nI 0 from (show (0 : Int32) = nI 0 from rfl)) (show 0 = nI 0 from (show (0 : Int32) = nI 0 from rfl)) (by omega) (by omega)) (fun _ => ?_) (fun h3 => absurd (by omega) h3)
  refine g_pure 2 (i' := 21) (lv' := [some (vR 800), some (vI (-1))]) (st' := [vI (-1), vI (-1)]) rfl ?_
  exact o1 s1 es1

theorem b_299_v {X : Nat × (Nat → Int32)} {d : Nat} {p : Nat → Nat} {sg : Mg} {Q : am_R → Prop} {B : Nat} {S : Nat → Int32} (hI : Inv B S) (hS : sg 801 = S) {x : Int32} (hx : ¬ x = -1)
    (o1 : ∀ s1 : Mg, s1 = mu sg 800 0 0 → ∀ n4 : Nat, x = nI n4 → n4 < sn S 1 → gW X (d + 5) k_299 19 [some (vR 800), some (vI (nI n4))] [] p s1 Q)
    (o2 : ∀ s1 : Mg, s1 = mu sg 800 0 0 → (¬ okx x (sn S 1)) → ∀ s6 : Mg, s6 = mu s1 800 0 (nI 1) → Q (gRv p s6 0)) :
    gW X (d + 5) k_299 0 [some (vR 800), some (vI x)] [] p sg Q := by
  have b0 := hI.b0; have b1 := hI.b1; have b2 := hI.b2; have b3 := hI.b3; have b4 := hI.b4; have b5 := hI.b5; have b6 := hI.b6; have b7 := hI.b7; have b8 := hI.b8; have b9 := hI.b9; have b14 := hI.b14
  refine g_pure 2 (i' := 2) (lv' := [some (vR 800), some (vI x)]) (st' := [vI 0, vR 800]) rfl ?_
  refine g_putI rfl (g_A (a := 800) (kd := 0) (n := 12) rfl (by decide)) ?_
  refine g_setv (fun s1 es1 => ?_)
  have hSs1 : s1 801 = S := by rw [es1, mu_ne (by decide), hS]
  refine g_pure 3 (i' := 6) (lv' := [some (vR 800), some (vI x)]) (st' := [vI (-1), vI x, vR 800]) rfl ?_
  refine g_if2 (i' := 13) (P := x = (-1)) rfl rfl Iff.rfl (fun h2 => absurd h2 hx) (fun _ => ?_)
  refine g_pure 2 (i' := 9) (lv' := [some (vR 800), some (vI x)]) (st' := [vI x, vR 800, vR 800]) rfl ?_
  refine g_cV1 rfl (args := [vR 800, vI x]) (rest := [vR 800]) rfl rfl rfl (s_237 (d := d + 3) hI hSs1) ?_
  refine g_if1 (i' := 13) (P := okx x (sn S 1)) rfl rfl (g_eqB.trans Classical.not_not) (fun h3 => ?_) (fun h3 => ?_)
  · obtain ⟨n4, ln4, en4⟩ := okx_of h3
    subst en4
    refine g_pure 2 (i' := 15) (lv' := [some (vR 800), some (vI (nI n4))]) (st' := [vI 1, vI 0, vR 800]) rfl ?_
    refine gW_eq (st' := [vI (nI 1), vI 0, vR 800]) rfl (by rw [(show (1 : Int32) = nI 1 from rfl)]) rfl ?_
    refine g_cV1 rfl (args := [vR 800, vI 0, vI (nI 1)]) (rest := []) rfl rfl rfl (s_227f (d := d + 4) (by omega)) ?_
    refine g_if1 (i' := 19) (P := 0 = 0) rfl rfl (g_eqN (show 0 = nI 0 from (show (0 : Int32) = nI 0 from rfl)) (show 0 = nI 0 from (show (0 : Int32) = nI 0 from rfl)) (by omega) (by omega)) (fun _ => ?_) (fun h5 => absurd (by omega) h5)
    exact o1 s1 es1 n4 rfl ln4
  · refine g_pure 3 (i' := 15) (lv' := [some (vR 800), some (vI x)]) (st' := [vI 1, vI 1, vR 800]) rfl ?_
    refine gW_eq (st' := [vI (nI 1), vI 1, vR 800]) rfl (by rw [(show (1 : Int32) = nI 1 from rfl)]) rfl ?_
    refine g_cV1 rfl (args := [vR 800, vI 1, vI (nI 1)]) (rest := []) rfl rfl rfl (s_227t (d := d + 4) (by omega)) ?_
    refine g_setv (fun s6 es6 => ?_)
    have hSs6 : s6 801 = S := by rw [es6, mu_ne (by decide), hSs1]
    refine g_if1 (i' := 19) (P := 1 = 0) rfl rfl (g_eqN (show 1 = nI 1 from (show (1 : Int32) = nI 1 from rfl)) (show 0 = nI 0 from (show (0 : Int32) = nI 0 from rfl)) (by omega) (by omega)) (fun h7 => absurd h7 (by omega)) (fun _ => ?_)
    refine g_pure 1 (i' := 18) (lv' := [some (vR 800), some (vI x)]) (st' := [vI 0]) rfl ?_
    refine g_iret rfl ?_
    exact o2 s1 es1 h3 s6 es6

theorem b_299_k {X : Nat × (Nat → Int32)} {d : Nat} {p : Nat → Nat} {sg : Mg} {Q : am_R → Prop} {B : Nat} {S : Nat → Int32} (hI : Inv B S) (hS : sg 801 = S) {k : Nat} (u_k : k ≤ 7)
    (o1 : Q (gRv p sg (bal S k))) :
    gW X (d + 5) k_299 19 [some (vR 800), some (vI (nI k))] [] p sg Q := by
  have b0 := hI.b0; have b1 := hI.b1; have b2 := hI.b2; have b3 := hI.b3; have b4 := hI.b4; have b5 := hI.b5; have b6 := hI.b6; have b7 := hI.b7; have b8 := hI.b8; have b9 := hI.b9; have b14 := hI.b14
  refine g_pure 2 (i' := 21) (lv' := [some (vR 800), some (vI (nI k))]) (st' := [vI (-1), vI (nI k)]) rfl ?_
  refine g_if2 (i' := 25) (P := ¬ nI k = (-1)) rfl rfl Iff.rfl (fun _ => ?_) (fun h1 => absurd (nI_m1 (by omega)) h1)
  refine g_pure 2 (i' := 27) (lv' := [some (vR 800), some (vI (nI k))]) (st' := [vI (nI k), vR 800]) rfl ?_
  refine g_cV1 rfl (args := [vR 800, vI (nI k)]) (rest := []) rfl rfl rfl (s_301 (d := d + 3) hI hS (by omega)) ?_
  refine g_iret rfl ?_
  exact o1

def nettedR (S : Nat → Int32) (x : Int32) : Nat × Int32 := if x = -1 then (0, fpV S) else if okx x (sn S 1) then (0, bal S x.toNatClampNeg) else (1, 0)
theorem c_netted {X : Nat × (Nat → Int32)} {d : Nat} {p : Nat → Nat} {sg : Mg} {B : Nat} {A : AS} (hI : RI B A) (hR : RC A p sg) {x : Int32} : gF X (d + 5) 174 [vR 0, vI x] p sg (cR A A (fun _ => 2) (nettedR A.S x) sg) := by
  have b1 := hI.1.b1
  refine g_in (cd := k_174) (nL := 2) (rc := 12) rfl (g_A (a := 0) (kd := 0) (n := 11) rfl (by decide)) (g_c1 rfl) (b_174_0 hI.1 hR.2.1.1 hR.2.1.2.1 (fun h n e l => ?_) (fun h h2 => ?_) (fun h => ?_))
  · subst e
    refine cR_v hR (fun _ _ => rfl) ?_
    unfold nettedR
    rw [if_neg h, if_pos ((okx_nI (by omega)).mpr (by omega)), nI_clamp (by omega)]
  · refine cR_x hR (fun _ _ => rfl) (c := 0) ?_ rfl
    unfold nettedR
    rw [if_neg h, if_neg h2]
  · subst h
    refine g_pure 5 (i' := 8) (lv' := [some (vR 0), some (vI (-1))]) (st' := [vR 202, vR 21]) rfl ?_
    refine g_cV1E rfl (args := [vR 21, vR 202]) (rest := []) rfl rfl rfl (s_62 (d := d + 1) hI.1 hR.2.1.1 hR.2.1.2.1 hR.2.2.2.2.2.2.2.2.2) (fun s h9 => ?_)
    refine g_iret rfl (cR_v (hR.ev hI.2.2.2.1 (fun c hc h23 => h9.1 c (by unfold relC at hc; omega) h23) h9.2) (fun c hc => h9.1 c (by omega) (by omega)) ?_)
    unfold nettedR
    rw [if_pos rfl]
theorem m_netted {X : Nat × (Nat → Int32)} {d : Nat} {p : Nat → Nat} {sg : Mg} {B : Nat} {A : AS} (hI : RI B A) (hR : RM A sg) {x : Int32} : gF X (d + 6) 299 [vR 800, vI x] p sg (mR A A (nettedR A.S x) p sg) := by
  have b1 := hI.1.b1
  by_cases hx : x = -1
  · subst hx
    refine g_in (cd := k_299) (nL := 2) (rc := 13) rfl (g_A (a := 800) (kd := 0) (n := 12) rfl (by decide)) (g_c1 rfl) (b_299_m hI.1 hR.1 (fun s1 f1 => ?_))
    have hR1 := hR.th f1
    refine g_if2 (i' := 25) (P := False) rfl rfl (by show (¬ (-1 : Int32) = -1) ↔ False; simp) (fun h => h.elim) (fun _ => ?_)
    refine g_pure 1 (i' := 23) (lv' := [some (vR 800), some (vI (-1))]) (st' := [vR 800]) rfl ?_
    refine g_cV1E rfl (args := [vR 800]) (rest := []) rfl rfl rfl (s_300 (d := d + 2) hI.1 hR1.1 hR1.2.2.2.2.2.2.2.2) (fun s h9 => ?_)
    refine g_pure 1 (i' := 28) (lv' := [some (vR 800), some (vI (-1))]) (st' := [vI (fpV A.S)]) rfl ?_
    refine g_iret rfl (mR_v (hR1.ev (fun c hc => h9.1 c (by omega)) (fun k _ => congrFun (h9.1 800 (by decide)) k) h9.2) (fun c hc => by rw [h9.1 c (by omega), f1, up_hi hc]) (by rw [h9.1 800 (by decide), f1, mu_self]) ?_)
    unfold nettedR
    rw [if_pos rfl]
  · refine g_in (cd := k_299) (nL := 2) (rc := 13) rfl (g_A (a := 800) (kd := 0) (n := 12) rfl (by decide)) (g_c1 rfl) (b_299_v hI.1 hR.1 hx ?_ ?_)
    · intro s1 f1 n e l
      subst e
      have hR1 := hR.th f1
      refine b_299_k hI.1 hR1.1 (by omega) (mR_v hR1 (fun c hc => by rw [f1, up_hi hc]) (by rw [f1, mu_self]) ?_)
      unfold nettedR
      rw [if_neg hx, if_pos ((okx_nI (by omega)).mpr (by omega)), nI_clamp (by omega)]
    · intro s1 f1 h s6 f6
      refine mR_x ((hR.th f1).th f6) (fun c hc => by rw [f6, f1, up_hi hc, up_hi hc]) (c := 0) (by rw [f6, mu_self]) ?_
      unfold nettedR
      rw [if_neg hx, if_neg h]
