/-! PLAN: the search of the class (made by wip/whole/gen89e.py) -/
theorem b_105_0 {X : Nat × (Nat → Int32)} {d : Nat} {p : Nat → Nat} {sg : Mg} {Q : am_R → Prop} {B : Nat} {S : Nat → Int32} (hI : Inv B S) (hL : cwL 250 sg S) (hD : cwD 200 sg S) {x : Nat} {j : Nat} {m : Nat} {r : Nat} {c : Nat} (hA_c : am_A (gE p) c 1 6) (u_j : j ≤ 7) (u_m : m ≤ 255) (u_r : r ≤ 200406) (q1 : j < sn S 5) (hx : sg c (sn S (269 + 5 * j)) = nI x) (hx2 : x ≤ 200400 ∨ x = 2000000000)
    (o1 : (S (269 + 5 * j + 2) = (-1)) → (¬ x = 2000000000) → Q (gRv p sg (nI ((max x r) + ((pgf S (sn S (269 + 5 * j)) (sn S (269 + 5 * j + 1))) + sn S 9 - ((max x r) % sn S 9)) % sn S 9))))
    (o2 : (S (269 + 5 * j + 2) = (-1)) → (x = 2000000000) → Q (gRv p sg 2000000000))
    (o3 : (¬ (S (269 + 5 * j + 2) = (-1))) → (((nI m >>> (S (269 + 5 * j + 2) &&& 31)) &&& 1) = 0) → (¬ x = 2000000000) → Q (gRv p sg (nI ((max x r) + ((pgf S (sn S (269 + 5 * j)) (sn S (269 + 5 * j + 1))) + sn S 9 - ((max x r) % sn S 9)) % sn S 9))))
    (o4 : (¬ (S (269 + 5 * j + 2) = (-1))) → (((nI m >>> (S (269 + 5 * j + 2) &&& 31)) &&& 1) = 0) → (x = 2000000000) → Q (gRv p sg 2000000000))
    (o5 : (¬ (S (269 + 5 * j + 2) = (-1))) → (¬ (((nI m >>> (S (269 + 5 * j + 2) &&& 31)) &&& 1) = 0)) → Q (gRv p sg 2000000000)) :
    gW X (d + 4) k_105 0 [some (vR 8), some (vI (nI j)), some (vI (nI m)), some (vI (nI r)), some (vR c), none, none, none] [] p sg Q := by
  have b0 := hI.b0; have b1 := hI.b1; have b2 := hI.b2; have b3 := hI.b3; have b4 := hI.b4; have b5 := hI.b5; have b6 := hI.b6; have b7 := hI.b7; have b8 := hI.b8; have b9 := hI.b9; have b14 := hI.b14
  refine g_pure 4 (i' := 4) (lv' := [some (vR 8), some (vI (nI j)), some (vI (nI m)), some (vI (nI r)), some (vR c), none, none, none]) (st' := [vI (nI j), vR 207]) rfl ?_
  refine g_aald rfl (Or.inl rfl) (g_A (a := 207) (kd := 5) (n := 8) rfl (by decide)) (by decide) (show nI j = nI j from (rfl : nI j = nI j)) (by omega) (gR_207 (by omega)) ?_
  refine g_pure 3 (i' := 8) (lv' := [some (vR 8), some (vI (nI j)), some (vI (nI m)), some (vI (nI r)), some (vR c), some (vR (242 + j)), none, none]) (st' := [vI 2, vR (242 + j)]) rfl ?_
  refine g_ald rfl (gA_207 (by omega)) (by decide) (show 2 = nI 2 from (show (2 : Int32) = nI 2 from rfl)) (by decide) (show _ = S (269 + 5 * j + 2) from (hD.tas 2 (by omega) (by decide))) ?_
  refine g_pure 3 (i' := 12) (lv' := [some (vR 8), some (vI (nI j)), some (vI (nI m)), some (vI (nI r)), some (vR c), some (vR (242 + j)), some (vI (S (269 + 5 * j + 2))), none]) (st' := [vI (-1), vI (S (269 + 5 * j + 2))]) rfl ?_
  refine g_if2 (i' := 21) (P := S (269 + 5 * j + 2) = (-1)) rfl rfl Iff.rfl (fun h1 => ?_) (fun h1 => ?_)
  · refine g_pure 3 (i' := 24) (lv' := [some (vR 8), some (vI (nI j)), some (vI (nI m)), some (vI (nI r)), some (vR c), some (vR (242 + j)), some (vI (S (269 + 5 * j + 2))), some (vI 0)]) (st' := [vI 0]) rfl ?_
    refine g_if1 (i' := 32) (P := ¬ 0 = 0) rfl rfl (g_neN (show 0 = nI 0 from (show (0 : Int32) = nI 0 from rfl)) (show 0 = nI 0 from (show (0 : Int32) = nI 0 from rfl)) (by omega) (by omega)) (fun h2 => absurd h2 (by omega)) (fun _ => ?_)
    refine g_pure 3 (i' := 28) (lv' := [some (vR 8), some (vI (nI j)), some (vI (nI m)), some (vI (nI r)), some (vR c), some (vR (242 + j)), some (vI (S (269 + 5 * j + 2))), some (vI 0)]) (st' := [vI 0, vR (242 + j), vR c]) rfl ?_
    refine g_ald rfl (gA_207 (by omega)) (by decide) (show 0 = nI 0 from (show (0 : Int32) = nI 0 from rfl)) (by decide) (show _ = S (269 + 5 * j) from (hD.tas 0 (by omega) (by decide))) ?_
    have t3 := (hI.tas (k := j) (by omega)).1
    have t3b := t3.2
    refine g_ald rfl hA_c (by decide) (show S (269 + 5 * j) = nI (sn S (269 + 5 * j)) from t3.1) (by omega) (show _ = nI x from hx) ?_
    refine g_pure 1 (i' := 31) (lv' := [some (vR 8), some (vI (nI j)), some (vI (nI m)), some (vI (nI r)), some (vR c), some (vR (242 + j)), some (vI (S (269 + 5 * j + 2))), some (vI 0)]) (st' := [vI 2000000000, vI (nI x)]) rfl ?_
    refine g_if2 (i' := 34) (P := ¬ x = 2000000000) rfl rfl (g_neN (show nI x = nI x from (rfl : nI x = nI x)) (show 2000000000 = nI 2000000000 from (show (2000000000 : Int32) = nI 2000000000 from rfl)) (by omega) (by omega)) (fun h4 => ?_) (fun h4 => ?_)
    · refine g_pure 4 (i' := 38) (lv' := [some (vR 8), some (vI (nI j)), some (vI (nI m)), some (vI (nI r)), some (vR c), some (vR (242 + j)), some (vI (S (269 + 5 * j + 2))), some (vI 0)]) (st' := [vI 0, vR (242 + j), vR 200]) rfl ?_
      refine g_ald rfl (gA_207 (by omega)) (by decide) (show 0 = nI 0 from (show (0 : Int32) = nI 0 from rfl)) (by decide) (show _ = S (269 + 5 * j) from (hD.tas 0 (by omega) (by decide))) ?_
      refine g_pure 2 (i' := 41) (lv' := [some (vR 8), some (vI (nI j)), some (vI (nI m)), some (vI (nI r)), some (vR c), some (vR (242 + j)), some (vI (S (269 + 5 * j + 2))), some (vI 0)]) (st' := [vI 1, vR (242 + j), vI (S (269 + 5 * j)), vR 200]) rfl ?_
      refine g_ald rfl (gA_207 (by omega)) (by decide) (show 1 = nI 1 from (show (1 : Int32) = nI 1 from rfl)) (by decide) (show _ = S (269 + 5 * j + 1) from (hD.tas 1 (by omega) (by decide))) ?_
      refine g_pure 3 (i' := 45) (lv' := [some (vR 8), some (vI (nI j)), some (vI (nI m)), some (vI (nI r)), some (vR c), some (vR (242 + j)), some (vI (S (269 + 5 * j + 2))), some (vI 0)]) (st' := [vI 0, vR (242 + j), vR c, vI (S (269 + 5 * j + 1)), vI (S (269 + 5 * j)), vR 200]) rfl ?_
      refine g_ald rfl (gA_207 (by omega)) (by decide) (show 0 = nI 0 from (show (0 : Int32) = nI 0 from rfl)) (by decide) (show _ = S (269 + 5 * j) from (hD.tas 0 (by omega) (by decide))) ?_
      have t5 := (hI.tas (k := j) (by omega)).1
      have t5b := t5.2
      refine g_ald rfl hA_c (by decide) (show S (269 + 5 * j) = nI (sn S (269 + 5 * j)) from t5.1) (by omega) (show _ = nI x from hx) ?_
      refine g_pure 1 (i' := 48) (lv' := [some (vR 8), some (vI (nI j)), some (vI (nI m)), some (vI (nI r)), some (vR c), some (vR (242 + j)), some (vI (S (269 + 5 * j + 2))), some (vI 0)]) (st' := [vI (nI r), vI (nI x), vI (S (269 + 5 * j + 1)), vI (S (269 + 5 * j)), vR 200]) rfl ?_
      refine g_cS1 rfl (args := [vI (nI x), vI (nI r)]) (rest := [vI (S (269 + 5 * j + 1)), vI (S (269 + 5 * j)), vR 200]) rfl rfl rfl (s_316n (d := d + 3) (by omega) (by omega)) ?_
      have t6 := Nat.le_max_left x r
      have t7 := Nat.le_max_right x r
      have t8 := (hI.tas (k := j) (by omega)).1
      have t8b := t8.2
      have t9 := (hI.tas (k := j) (by omega)).2.1
      have t9b := t9.2
      refine gW_eq (st' := [vI (nI (max x r)), vI (nI (sn S (269 + 5 * j + 1))), vI (nI (sn S (269 + 5 * j))), vR 200]) rfl (by rw [(show S (269 + 5 * j) = nI (sn S (269 + 5 * j)) from t8.1), (show S (269 + 5 * j + 1) = nI (sn S (269 + 5 * j + 1)) from t9.1)]) rfl ?_
      refine g_cV1 rfl (args := [vR 200, vI (nI (sn S (269 + 5 * j))), vI (nI (sn S (269 + 5 * j + 1))), vI (nI (max x r))]) (rest := []) rfl rfl rfl (s_111 (d := d + 1) hI hL hD (by omega) (by omega) (by omega) (by omega) (by omega)) ?_
      refine g_iret rfl ?_
      exact o1 h1 h4
    · have h4 := Classical.not_not.mp h4
      refine g_pure 1 (i' := 33) (lv' := [some (vR 8), some (vI (nI j)), some (vI (nI m)), some (vI (nI r)), some (vR c), some (vR (242 + j)), some (vI (S (269 + 5 * j + 2))), some (vI 0)]) (st' := [vI 2000000000]) rfl ?_
      refine g_iret rfl ?_
      exact o2 h1 h4
  · refine g_pure 5 (i' := 18) (lv' := [some (vR 8), some (vI (nI j)), some (vI (nI m)), some (vI (nI r)), some (vR c), some (vR (242 + j)), some (vI (S (269 + 5 * j + 2))), none]) (st' := [vI ((nI m >>> (S (269 + 5 * j + 2) &&& 31)) &&& 1)]) rfl ?_
    refine g_if1 (i' := 21) (P := ((nI m >>> (S (269 + 5 * j + 2) &&& 31)) &&& 1) = 0) rfl rfl Iff.rfl (fun h10 => ?_) (fun h10 => ?_)
    · refine g_pure 3 (i' := 24) (lv' := [some (vR 8), some (vI (nI j)), some (vI (nI m)), some (vI (nI r)), some (vR c), some (vR (242 + j)), some (vI (S (269 + 5 * j + 2))), some (vI 0)]) (st' := [vI 0]) rfl ?_
      refine g_if1 (i' := 32) (P := ¬ 0 = 0) rfl rfl (g_neN (show 0 = nI 0 from (show (0 : Int32) = nI 0 from rfl)) (show 0 = nI 0 from (show (0 : Int32) = nI 0 from rfl)) (by omega) (by omega)) (fun h11 => absurd h11 (by omega)) (fun _ => ?_)
      refine g_pure 3 (i' := 28) (lv' := [some (vR 8), some (vI (nI j)), some (vI (nI m)), some (vI (nI r)), some (vR c), some (vR (242 + j)), some (vI (S (269 + 5 * j + 2))), some (vI 0)]) (st' := [vI 0, vR (242 + j), vR c]) rfl ?_
      refine g_ald rfl (gA_207 (by omega)) (by decide) (show 0 = nI 0 from (show (0 : Int32) = nI 0 from rfl)) (by decide) (show _ = S (269 + 5 * j) from (hD.tas 0 (by omega) (by decide))) ?_
      have t12 := (hI.tas (k := j) (by omega)).1
      have t12b := t12.2
      refine g_ald rfl hA_c (by decide) (show S (269 + 5 * j) = nI (sn S (269 + 5 * j)) from t12.1) (by omega) (show _ = nI x from hx) ?_
      refine g_pure 1 (i' := 31) (lv' := [some (vR 8), some (vI (nI j)), some (vI (nI m)), some (vI (nI r)), some (vR c), some (vR (242 + j)), some (vI (S (269 + 5 * j + 2))), some (vI 0)]) (st' := [vI 2000000000, vI (nI x)]) rfl ?_
      refine g_if2 (i' := 34) (P := ¬ x = 2000000000) rfl rfl (g_neN (show nI x = nI x from (rfl : nI x = nI x)) (show 2000000000 = nI 2000000000 from (show (2000000000 : Int32) = nI 2000000000 from rfl)) (by omega) (by omega)) (fun h13 => ?_) (fun h13 => ?_)
      · refine g_pure 4 (i' := 38) (lv' := [some (vR 8), some (vI (nI j)), some (vI (nI m)), some (vI (nI r)), some (vR c), some (vR (242 + j)), some (vI (S (269 + 5 * j + 2))), some (vI 0)]) (st' := [vI 0, vR (242 + j), vR 200]) rfl ?_
        refine g_ald rfl (gA_207 (by omega)) (by decide) (show 0 = nI 0 from (show (0 : Int32) = nI 0 from rfl)) (by decide) (show _ = S (269 + 5 * j) from (hD.tas 0 (by omega) (by decide))) ?_
        refine g_pure 2 (i' := 41) (lv' := [some (vR 8), some (vI (nI j)), some (vI (nI m)), some (vI (nI r)), some (vR c), some (vR (242 + j)), some (vI (S (269 + 5 * j + 2))), some (vI 0)]) (st' := [vI 1, vR (242 + j), vI (S (269 + 5 * j)), vR 200]) rfl ?_
        refine g_ald rfl (gA_207 (by omega)) (by decide) (show 1 = nI 1 from (show (1 : Int32) = nI 1 from rfl)) (by decide) (show _ = S (269 + 5 * j + 1) from (hD.tas 1 (by omega) (by decide))) ?_
        refine g_pure 3 (i' := 45) (lv' := [some (vR 8), some (vI (nI j)), some (vI (nI m)), some (vI (nI r)), some (vR c), some (vR (242 + j)), some (vI (S (269 + 5 * j + 2))), some (vI 0)]) (st' := [vI 0, vR (242 + j), vR c, vI (S (269 + 5 * j + 1)), vI (S (269 + 5 * j)), vR 200]) rfl ?_
        refine g_ald rfl (gA_207 (by omega)) (by decide) (show 0 = nI 0 from (show (0 : Int32) = nI 0 from rfl)) (by decide) (show _ = S (269 + 5 * j) from (hD.tas 0 (by omega) (by decide))) ?_
        have t14 := (hI.tas (k := j) (by omega)).1
        have t14b := t14.2
        refine g_ald rfl hA_c (by decide) (show S (269 + 5 * j) = nI (sn S (269 + 5 * j)) from t14.1) (by omega) (show _ = nI x from hx) ?_
        refine g_pure 1 (i' := 48) (lv' := [some (vR 8), some (vI (nI j)), some (vI (nI m)), some (vI (nI r)), some (vR c), some (vR (242 + j)), some (vI (S (269 + 5 * j + 2))), some (vI 0)]) (st' := [vI (nI r), vI (nI x), vI (S (269 + 5 * j + 1)), vI (S (269 + 5 * j)), vR 200]) rfl ?_
        refine g_cS1 rfl (args := [vI (nI x), vI (nI r)]) (rest := [vI (S (269 + 5 * j + 1)), vI (S (269 + 5 * j)), vR 200]) rfl rfl rfl (s_316n (d := d + 3) (by omega) (by omega)) ?_
        have t15 := Nat.le_max_left x r
        have t16 := Nat.le_max_right x r
        have t17 := (hI.tas (k := j) (by omega)).1
        have t17b := t17.2
        have t18 := (hI.tas (k := j) (by omega)).2.1
        have t18b := t18.2
        refine gW_eq (st' := [vI (nI (max x r)), vI (nI (sn S (269 + 5 * j + 1))), vI (nI (sn S (269 + 5 * j))), vR 200]) rfl (by rw [(show S (269 + 5 * j) = nI (sn S (269 + 5 * j)) from t17.1), (show S (269 + 5 * j + 1) = nI (sn S (269 + 5 * j + 1)) from t18.1)]) rfl ?_
        refine g_cV1 rfl (args := [vR 200, vI (nI (sn S (269 + 5 * j))), vI (nI (sn S (269 + 5 * j + 1))), vI (nI (max x r))]) (rest := []) rfl rfl rfl (s_111 (d := d + 1) hI hL hD (by omega) (by omega) (by omega) (by omega) (by omega)) ?_
        refine g_iret rfl ?_
        exact o3 h1 h10 h13
      · have h13 := Classical.not_not.mp h13
        refine g_pure 1 (i' := 33) (lv' := [some (vR 8), some (vI (nI j)), some (vI (nI m)), some (vI (nI r)), some (vR c), some (vR (242 + j)), some (vI (S (269 + 5 * j + 2))), some (vI 0)]) (st' := [vI 2000000000]) rfl ?_
        refine g_iret rfl ?_
        exact o4 h1 h10 h13
    · refine g_pure 4 (i' := 24) (lv' := [some (vR 8), some (vI (nI j)), some (vI (nI m)), some (vI (nI r)), some (vR c), some (vR (242 + j)), some (vI (S (269 + 5 * j + 2))), some (vI 1)]) (st' := [vI 1]) rfl ?_
      refine g_if1 (i' := 32) (P := ¬ 1 = 0) rfl rfl (g_neN (show 1 = nI 1 from (show (1 : Int32) = nI 1 from rfl)) (show 0 = nI 0 from (show (0 : Int32) = nI 0 from rfl)) (by omega) (by omega)) (fun _ => ?_) (fun h19 => absurd (by omega) h19)
      refine g_pure 1 (i' := 33) (lv' := [some (vR 8), some (vI (nI j)), some (vI (nI m)), some (vI (nI r)), some (vR c), some (vR (242 + j)), some (vI (S (269 + 5 * j + 2))), some (vI 1)]) (st' := [vI 2000000000]) rfl ?_
      refine g_iret rfl ?_
      exact o5 h1 h10

theorem b_103_0 {X : Nat × (Nat → Int32)} {d : Nat} {p : Nat → Nat} {sg : Mg} {Q : am_R → Prop} {B : Nat} {S : Nat → Int32} (hI : Inv B S) (hL : cwL 250 sg S) (hD : cwD 200 sg S) {m : Nat} (u_m : m ≤ 255)
    (o1 : gW X (d + 2) k_103 2 [some (vR 8), some (vI (nI m)), some (vI 0), none, none] [] p sg Q) :
    gW X (d + 2) k_103 0 [some (vR 8), some (vI (nI m)), none, none, none] [] p sg Q := by
  have b0 := hI.b0; have b1 := hI.b1; have b2 := hI.b2; have b3 := hI.b3; have b4 := hI.b4; have b5 := hI.b5; have b6 := hI.b6; have b7 := hI.b7; have b8 := hI.b8; have b9 := hI.b9; have b14 := hI.b14
  refine g_pure 2 (i' := 2) (lv' := [some (vR 8), some (vI (nI m)), some (vI 0), none, none]) (st' := []) rfl ?_
  exact o1

theorem b_103_2 {X : Nat × (Nat → Int32)} {d : Nat} {p : Nat → Nat} {sg : Mg} {Q : am_R → Prop} {B : Nat} {S : Nat → Int32} (hI : Inv B S) (hL : cwL 250 sg S) (hD : cwD 200 sg S) {m : Nat} {j : Nat} {z3 : Option AV} {z4 : Option AV} (u_m : m ≤ 255) (u_j : j ≤ 8)
    (o1 : (sn S 5 ≤ j) → Q (gRv p sg 1))
    (o2 : (¬ (sn S 5 ≤ j)) → (((nI m >>> (nI j &&& 31)) &&& 1) = 0) → gW X (d + 2) k_103 2 [some (vR 8), some (vI (nI m)), some (vI (nI (j + 1))), some (vI (S (269 + 5 * j + 2))), some (vI 0)] [] p sg Q)
    (o3 : (¬ (sn S 5 ≤ j)) → (¬ (((nI m >>> (nI j &&& 31)) &&& 1) = 0)) → (S (269 + 5 * j + 2) = (-1)) → gW X (d + 2) k_103 2 [some (vR 8), some (vI (nI m)), some (vI (nI (j + 1))), some (vI (S (269 + 5 * j + 2))), some (vI 0)] [] p sg Q)
    (o4 : (¬ (sn S 5 ≤ j)) → (¬ (((nI m >>> (nI j &&& 31)) &&& 1) = 0)) → (¬ (S (269 + 5 * j + 2) = (-1))) → ∃ k, S (269 + 5 * j + 2) = nI k ∧ k < 8)
    (o5 : (¬ (sn S 5 ≤ j)) → (¬ (((nI m >>> (nI j &&& 31)) &&& 1) = 0)) → (¬ (S (269 + 5 * j + 2) = (-1))) → ∀ k6 : Nat, S (269 + 5 * j + 2) = nI k6 → k6 < 8 → (¬ S (269 + 5 * k6 + 3) = (-1)) → gW X (d + 2) k_103 2 [some (vR 8), some (vI (nI m)), some (vI (nI (j + 1))), some (vI (S (269 + 5 * j + 2))), some (vI 0)] [] p sg Q)
    (o6 : (¬ (sn S 5 ≤ j)) → (¬ (((nI m >>> (nI j &&& 31)) &&& 1) = 0)) → (¬ (S (269 + 5 * j + 2) = (-1))) → ∀ k6 : Nat, S (269 + 5 * j + 2) = nI k6 → k6 < 8 → (S (269 + 5 * k6 + 3) = (-1)) → (¬ ((nI m >>> (S (269 + 5 * j + 2) &&& 31)) &&& 1) = 0) → gW X (d + 2) k_103 2 [some (vR 8), some (vI (nI m)), some (vI (nI (j + 1))), some (vI (S (269 + 5 * j + 2))), some (vI 1)] [] p sg Q)
    (o7 : (¬ (sn S 5 ≤ j)) → (¬ (((nI m >>> (nI j &&& 31)) &&& 1) = 0)) → (¬ (S (269 + 5 * j + 2) = (-1))) → ∀ k6 : Nat, S (269 + 5 * j + 2) = nI k6 → k6 < 8 → (S (269 + 5 * k6 + 3) = (-1)) → (((nI m >>> (S (269 + 5 * j + 2) &&& 31)) &&& 1) = 0) → Q (gRv p sg 0)) :
    gW X (d + 2) k_103 2 [some (vR 8), some (vI (nI m)), some (vI (nI j)), z3, z4] [] p sg Q := by
  have b0 := hI.b0; have b1 := hI.b1; have b2 := hI.b2; have b3 := hI.b3; have b4 := hI.b4; have b5 := hI.b5; have b6 := hI.b6; have b7 := hI.b7; have b8 := hI.b8; have b9 := hI.b9; have b14 := hI.b14
  refine g_pure 5 (i' := 7) (lv' := [some (vR 8), some (vI (nI m)), some (vI (nI j)), z3, z4]) (st' := [vI 5, vR 203, vI (nI j)]) rfl ?_
  refine g_ald rfl (g_A (a := 203) (kd := 1) (n := 6) rfl (by decide)) (by decide) (show 5 = nI 5 from (show (5 : Int32) = nI 5 from rfl)) (by decide) (show _ = S 5 from (hD.cnt (by decide))) ?_
  refine g_if2 (i' := 49) (P := sn S 5 ≤ j) rfl rfl (g_geN (show nI j = nI j from (rfl : nI j = nI j)) (show S 5 = nI (sn S 5) from (hI.c5)) (by omega) (by omega)) (fun h1 => ?_) (fun h1 => ?_)
  · refine g_pure 1 (i' := 50) (lv' := [some (vR 8), some (vI (nI m)), some (vI (nI j)), z3, z4]) (st' := [vI 1]) rfl ?_
    refine g_bret rfl g_nar1 ?_
    exact o1 h1
  · refine g_pure 4 (i' := 13) (lv' := [some (vR 8), some (vI (nI m)), some (vI (nI j)), z3, z4]) (st' := [vI (nI j), vR 207]) rfl ?_
    refine g_aald rfl (Or.inl rfl) (g_A (a := 207) (kd := 5) (n := 8) rfl (by decide)) (by decide) (show nI j = nI j from (rfl : nI j = nI j)) (by omega) (gR_207 (by omega)) ?_
    refine g_pure 1 (i' := 15) (lv' := [some (vR 8), some (vI (nI m)), some (vI (nI j)), z3, z4]) (st' := [vI 2, vR (242 + j)]) rfl ?_
    refine g_ald rfl (gA_207 (by omega)) (by decide) (show 2 = nI 2 from (show (2 : Int32) = nI 2 from rfl)) (by decide) (show _ = S (269 + 5 * j + 2) from (hD.tas 2 (by omega) (by decide))) ?_
    refine g_pure 6 (i' := 22) (lv' := [some (vR 8), some (vI (nI m)), some (vI (nI j)), some (vI (S (269 + 5 * j + 2))), z4]) (st' := [vI ((nI m >>> (nI j &&& 31)) &&& 1)]) rfl ?_
    refine g_if1 (i' := 35) (P := ((nI m >>> (nI j &&& 31)) &&& 1) = 0) rfl rfl Iff.rfl (fun h2 => ?_) (fun h2 => ?_)
    · refine g_pure 3 (i' := 38) (lv' := [some (vR 8), some (vI (nI m)), some (vI (nI j)), some (vI (S (269 + 5 * j + 2))), some (vI 0)]) (st' := [vI 0]) rfl ?_
      refine g_if1 (i' := 47) (P := 0 = 0) rfl rfl (g_eqN (show 0 = nI 0 from (show (0 : Int32) = nI 0 from rfl)) (show 0 = nI 0 from (show (0 : Int32) = nI 0 from rfl)) (by omega) (by omega)) (fun _ => ?_) (fun h3 => absurd (by omega) h3)
      refine g_pure 2 (i' := 2) (lv' := [some (vR 8), some (vI (nI m)), some (vI (nI j + 1)), some (vI (S (269 + 5 * j + 2))), some (vI 0)]) (st' := []) rfl ?_
      refine gW_eq (lv' := [some (vR 8), some (vI (nI m)), some (vI (nI (j + 1))), some (vI (S (269 + 5 * j + 2))), some (vI 0)]) (st' := []) (by rw [(show (nI j + 1) = nI (j + 1) from ((g_add (rfl : nI j = nI j) (show (1 : Int32) = nI 1 from rfl))).trans (congrArg nI (by omega)))]) rfl rfl ?_
      exact o2 h1 h2
    · refine g_pure 2 (i' := 25) (lv' := [some (vR 8), some (vI (nI m)), some (vI (nI j)), some (vI (S (269 + 5 * j + 2))), z4]) (st' := [vI (-1), vI (S (269 + 5 * j + 2))]) rfl ?_
      refine g_if2 (i' := 35) (P := S (269 + 5 * j + 2) = (-1)) rfl rfl Iff.rfl (fun h4 => ?_) (fun h4 => ?_)
      · refine g_pure 3 (i' := 38) (lv' := [some (vR 8), some (vI (nI m)), some (vI (nI j)), some (vI (S (269 + 5 * j + 2))), some (vI 0)]) (st' := [vI 0]) rfl ?_
        refine g_if1 (i' := 47) (P := 0 = 0) rfl rfl (g_eqN (show 0 = nI 0 from (show (0 : Int32) = nI 0 from rfl)) (show 0 = nI 0 from (show (0 : Int32) = nI 0 from rfl)) (by omega) (by omega)) (fun _ => ?_) (fun h5 => absurd (by omega) h5)
        refine g_pure 2 (i' := 2) (lv' := [some (vR 8), some (vI (nI m)), some (vI (nI j + 1)), some (vI (S (269 + 5 * j + 2))), some (vI 0)]) (st' := []) rfl ?_
        refine gW_eq (lv' := [some (vR 8), some (vI (nI m)), some (vI (nI (j + 1))), some (vI (S (269 + 5 * j + 2))), some (vI 0)]) (st' := []) (by rw [(show (nI j + 1) = nI (j + 1) from ((g_add (rfl : nI j = nI j) (show (1 : Int32) = nI 1 from rfl))).trans (congrArg nI (by omega)))]) rfl rfl ?_
        exact o3 h1 h2 h4
      · refine g_pure 4 (i' := 30) (lv' := [some (vR 8), some (vI (nI m)), some (vI (nI j)), some (vI (S (269 + 5 * j + 2))), z4]) (st' := [vI (S (269 + 5 * j + 2)), vR 259]) rfl ?_
        obtain ⟨k6, ek6, lk6⟩ := o4 h1 h2 h4
        refine g_ald rfl (g_A (a := 259) (kd := 1) (n := 8) rfl (by decide)) (by decide) (show S (269 + 5 * j + 2) = nI k6 from ek6) (by omega) (show _ = S (269 + 5 * k6 + 3) from (hL.don 0 (by decide) (by omega))) ?_
        refine g_pure 1 (i' := 32) (lv' := [some (vR 8), some (vI (nI m)), some (vI (nI j)), some (vI (S (269 + 5 * j + 2))), z4]) (st' := [vI (-1), vI (S (269 + 5 * k6 + 3))]) rfl ?_
        refine g_if2 (i' := 35) (P := ¬ S (269 + 5 * k6 + 3) = (-1)) rfl rfl Iff.rfl (fun h7 => ?_) (fun h7 => ?_)
        · refine g_pure 3 (i' := 38) (lv' := [some (vR 8), some (vI (nI m)), some (vI (nI j)), some (vI (S (269 + 5 * j + 2))), some (vI 0)]) (st' := [vI 0]) rfl ?_
          refine g_if1 (i' := 47) (P := 0 = 0) rfl rfl (g_eqN (show 0 = nI 0 from (show (0 : Int32) = nI 0 from rfl)) (show 0 = nI 0 from (show (0 : Int32) = nI 0 from rfl)) (by omega) (by omega)) (fun _ => ?_) (fun h8 => absurd (by omega) h8)
          refine g_pure 2 (i' := 2) (lv' := [some (vR 8), some (vI (nI m)), some (vI (nI j + 1)), some (vI (S (269 + 5 * j + 2))), some (vI 0)]) (st' := []) rfl ?_
          refine gW_eq (lv' := [some (vR 8), some (vI (nI m)), some (vI (nI (j + 1))), some (vI (S (269 + 5 * j + 2))), some (vI 0)]) (st' := []) (by rw [(show (nI j + 1) = nI (j + 1) from ((g_add (rfl : nI j = nI j) (show (1 : Int32) = nI 1 from rfl))).trans (congrArg nI (by omega)))]) rfl rfl ?_
          exact o5 h1 h2 h4 k6 ek6 lk6 h7
        · have h7 := Classical.not_not.mp h7
          refine g_pure 4 (i' := 38) (lv' := [some (vR 8), some (vI (nI m)), some (vI (nI j)), some (vI (S (269 + 5 * j + 2))), some (vI 1)]) (st' := [vI 1]) rfl ?_
          refine g_if1 (i' := 47) (P := 1 = 0) rfl rfl (g_eqN (show 1 = nI 1 from (show (1 : Int32) = nI 1 from rfl)) (show 0 = nI 0 from (show (0 : Int32) = nI 0 from rfl)) (by omega) (by omega)) (fun h9 => absurd h9 (by omega)) (fun _ => ?_)
          refine g_pure 5 (i' := 44) (lv' := [some (vR 8), some (vI (nI m)), some (vI (nI j)), some (vI (S (269 + 5 * j + 2))), some (vI 1)]) (st' := [vI ((nI m >>> (S (269 + 5 * j + 2) &&& 31)) &&& 1)]) rfl ?_
          refine g_if1 (i' := 47) (P := ¬ ((nI m >>> (S (269 + 5 * j + 2) &&& 31)) &&& 1) = 0) rfl rfl Iff.rfl (fun h10 => ?_) (fun h10 => ?_)
          · refine g_pure 2 (i' := 2) (lv' := [some (vR 8), some (vI (nI m)), some (vI (nI j + 1)), some (vI (S (269 + 5 * j + 2))), some (vI 1)]) (st' := []) rfl ?_
            refine gW_eq (lv' := [some (vR 8), some (vI (nI m)), some (vI (nI (j + 1))), some (vI (S (269 + 5 * j + 2))), some (vI 1)]) (st' := []) (by rw [(show (nI j + 1) = nI (j + 1) from ((g_add (rfl : nI j = nI j) (show (1 : Int32) = nI 1 from rfl))).trans (congrArg nI (by omega)))]) rfl rfl ?_
            exact o6 h1 h2 h4 k6 ek6 lk6 h7 h10
          · have h10 := Classical.not_not.mp h10
            refine g_pure 1 (i' := 46) (lv' := [some (vR 8), some (vI (nI m)), some (vI (nI j)), some (vI (S (269 + 5 * j + 2))), some (vI 1)]) (st' := [vI 0]) rfl ?_
            refine g_bret rfl g_nar0 ?_
            exact o7 h1 h2 h4 k6 ek6 lk6 h7 h10

theorem b_104_0 {X : Nat × (Nat → Int32)} {d : Nat} {p : Nat → Nat} {sg : Mg} {Q : am_R → Prop} {B : Nat} {S : Nat → Int32} (hI : Inv B S) (hL : cwL 250 sg S) (hD : cwD 200 sg S) {k : Nat} {m : Nat} {v : Nat} {h : Nat} {r : Nat} {e : Nat} (u_k : k ≤ 7) (u_m : m ≤ 255) (u_v : v ≤ 5) (u_h : h ≤ 200405) (u_r : r ≤ 200406) (u_e : e ≤ 5) (q1 : k < sn S 1)
    (o1 : (m = 0) → Q (gRv p sg (nI h)))
    (o2 : (¬ (m = 0)) → (e < 5) → gW X (d + 6) k_104 17 [some (vR 8), some (vI (nI k)), some (vI (nI m)), some (vI (nI v)), some (vI (nI h)), some (vI (nI r)), some (vI (nI e)), some (vI (nI (400 + sn S 8))), none, none, none, none] [] p sg Q)
    (o3 : (¬ (m = 0)) → (¬ (e < 5)) → (¬ m = 0) → Q (gRv p sg 2000000000))
    (o4 : (¬ (m = 0)) → (¬ (e < 5)) → (m = 0) → Q (gRv p sg (nI h))) :
    gW X (d + 6) k_104 0 [some (vR 8), some (vI (nI k)), some (vI (nI m)), some (vI (nI v)), some (vI (nI h)), some (vI (nI r)), some (vI (nI e)), none, none, none, none, none] [] p sg Q := by
  have b0 := hI.b0; have b1 := hI.b1; have b2 := hI.b2; have b3 := hI.b3; have b4 := hI.b4; have b5 := hI.b5; have b6 := hI.b6; have b7 := hI.b7; have b8 := hI.b8; have b9 := hI.b9; have b14 := hI.b14
  refine g_pure 1 (i' := 1) (lv' := [some (vR 8), some (vI (nI k)), some (vI (nI m)), some (vI (nI v)), some (vI (nI h)), some (vI (nI r)), some (vI (nI e)), none, none, none, none, none]) (st' := [vI (nI m)]) rfl ?_
  refine g_if1 (i' := 5) (P := m = 0) rfl rfl (g_eqN (show nI m = nI m from (rfl : nI m = nI m)) (show 0 = nI 0 from (show (0 : Int32) = nI 0 from rfl)) (by omega) (by omega)) (fun h1 => ?_) (fun h1 => ?_)
  · refine g_pure 1 (i' := 6) (lv' := [some (vR 8), some (vI (nI k)), some (vI (nI m)), some (vI (nI v)), some (vI (nI h)), some (vI (nI r)), some (vI (nI e)), none, none, none, none, none]) (st' := [vI (nI m)]) rfl ?_
    refine g_if1 (i' := 9) (P := ¬ m = 0) rfl rfl (g_neN (show nI m = nI m from (rfl : nI m = nI m)) (show 0 = nI 0 from (show (0 : Int32) = nI 0 from rfl)) (by omega) (by omega)) (fun h2 => absurd h2 (by omega)) (fun _ => ?_)
    refine g_pure 2 (i' := 10) (lv' := [some (vR 8), some (vI (nI k)), some (vI (nI m)), some (vI (nI v)), some (vI (nI h)), some (vI (nI r)), some (vI (nI e)), none, none, none, none, none]) (st' := [vI (nI h)]) rfl ?_
    refine g_iret rfl ?_
    exact o1 h1
  · refine g_pure 2 (i' := 4) (lv' := [some (vR 8), some (vI (nI k)), some (vI (nI m)), some (vI (nI v)), some (vI (nI h)), some (vI (nI r)), some (vI (nI e)), none, none, none, none, none]) (st' := [vI 5, vI (nI e)]) rfl ?_
    refine g_if2 (i' := 11) (P := e < 5) rfl rfl (g_ltN (show nI e = nI e from (rfl : nI e = nI e)) (show 5 = nI 5 from (show (5 : Int32) = nI 5 from rfl)) (by omega) (by omega)) (fun h3 => ?_) (fun h3 => ?_)
    · refine g_pure 2 (i' := 13) (lv' := [some (vR 8), some (vI (nI k)), some (vI (nI m)), some (vI (nI v)), some (vI (nI h)), some (vI (nI r)), some (vI (nI e)), none, none, none, none, none]) (st' := [vR 250]) rfl ?_
      refine g_getI rfl (g_A (a := 250) (kd := 0) (n := 6) rfl (by decide)) (show _ = S 8 from hL.f12) ?_
      refine g_pure 3 (i' := 17) (lv' := [some (vR 8), some (vI (nI k)), some (vI (nI m)), some (vI (nI v)), some (vI (nI h)), some (vI (nI r)), some (vI (nI e)), some (vI (S 8 + 400)), none, none, none, none]) (st' := []) rfl ?_
      refine gW_eq (lv' := [some (vR 8), some (vI (nI k)), some (vI (nI m)), some (vI (nI v)), some (vI (nI h)), some (vI (nI r)), some (vI (nI e)), some (vI (nI (400 + sn S 8))), none, none, none, none]) (st' := []) (by rw [(show (S 8 + 400) = nI (400 + sn S 8) from ((g_add (hI.c8) (show (400 : Int32) = nI 400 from rfl))).trans (congrArg nI (by omega)))]) rfl rfl ?_
      exact o2 h1 h3
    · refine g_pure 1 (i' := 6) (lv' := [some (vR 8), some (vI (nI k)), some (vI (nI m)), some (vI (nI v)), some (vI (nI h)), some (vI (nI r)), some (vI (nI e)), none, none, none, none, none]) (st' := [vI (nI m)]) rfl ?_
      refine g_if1 (i' := 9) (P := ¬ m = 0) rfl rfl (g_neN (show nI m = nI m from (rfl : nI m = nI m)) (show 0 = nI 0 from (show (0 : Int32) = nI 0 from rfl)) (by omega) (by omega)) (fun h4 => ?_) (fun h4 => ?_)
      · refine g_pure 1 (i' := 10) (lv' := [some (vR 8), some (vI (nI k)), some (vI (nI m)), some (vI (nI v)), some (vI (nI h)), some (vI (nI r)), some (vI (nI e)), none, none, none, none, none]) (st' := [vI 2000000000]) rfl ?_
        refine g_iret rfl ?_
        exact o3 h1 h3 h4
      · have h4 := Classical.not_not.mp h4
        refine g_pure 2 (i' := 10) (lv' := [some (vR 8), some (vI (nI k)), some (vI (nI m)), some (vI (nI v)), some (vI (nI h)), some (vI (nI r)), some (vI (nI e)), none, none, none, none, none]) (st' := [vI (nI h)]) rfl ?_
        refine g_iret rfl ?_
        exact o4 h1 h3 h4

theorem b_104_17 {X : Nat × (Nat → Int32)} {d : Nat} {p : Nat → Nat} {sg : Mg} {Q : am_R → Prop} {B : Nat} {S : Nat → Int32} (hI : Inv B S) (hL : cwL 250 sg S) (hD : cwD 200 sg S) (hW : LW S sg) (hB : bOK S sg) {k : Nat} {m : Nat} {v : Nat} {h : Nat} {r : Nat} {e : Nat} (u_k : k ≤ 7) (u_m : m ≤ 255) (u_v : v ≤ 5) (u_h : h ≤ 200405) (u_r : r ≤ 200406) (u_e : e ≤ 4) (u_400snS8 : 400 + sn S 8 ≤ 200400) (q1 : k < sn S 1) (q2 : v < sn S 0) (q3 : sn S 8 ≤ h)
    (o1 : ∀ s1 : Mg, (SF sg s1 ∧ bOK S s1 ∧ ∃ F, soM s1 F ∧ spP S k v h (400 + sn S 8) F) → gW X (d + 6) k_104 29 [some (vR 8), some (vI (nI k)), some (vI (nI m)), some (vI (nI v)), some (vI (nI h)), some (vI (nI r)), some (vI (nI e)), some (vI (nI (400 + sn S 8))), none, none, none, none] [vR (165 + e), vR 10] p s1 Q) :
    gW X (d + 6) k_104 17 [some (vR 8), some (vI (nI k)), some (vI (nI m)), some (vI (nI v)), some (vI (nI h)), some (vI (nI r)), some (vI (nI e)), some (vI (nI (400 + sn S 8))), none, none, none, none] [] p sg Q := by
  have b0 := hI.b0; have b1 := hI.b1; have b2 := hI.b2; have b3 := hI.b3; have b4 := hI.b4; have b5 := hI.b5; have b6 := hI.b6; have b7 := hI.b7; have b8 := hI.b8; have b9 := hI.b9; have b14 := hI.b14
  refine g_pure 5 (i' := 22) (lv' := [some (vR 8), some (vI (nI k)), some (vI (nI m)), some (vI (nI v)), some (vI (nI h)), some (vI (nI r)), some (vI (nI e)), some (vI (nI (400 + sn S 8))), none, none, none, none]) (st' := [vI (nI (400 + sn S 8)), vI (nI h), vI (nI v), vI (nI k), vR 8]) rfl ?_
  refine g_cV0E rfl (args := [vR 8, vI (nI k), vI (nI v), vI (nI h), vI (nI (400 + sn S 8))]) (rest := []) rfl rfl rfl (s_87 (d := d) hI hL hD hW hB (by omega) (by omega) (by omega) (by omega) (by omega)) (fun s1 es1 => ?_)
  have hLs1 : cwL 250 s1 S := es1.1.L hL
  have hDs1 : cwD 200 s1 S := es1.1.D hD
  have hWs1 : LW S s1 := es1.1.W hW
  refine g_pure 5 (i' := 28) (lv' := [some (vR 8), some (vI (nI k)), some (vI (nI m)), some (vI (nI v)), some (vI (nI h)), some (vI (nI r)), some (vI (nI e)), some (vI (nI (400 + sn S 8))), none, none, none, none]) (st' := [vI (nI e), vR 15, vR 10]) rfl ?_
  refine g_aald rfl (Or.inl rfl) (g_A (a := 15) (kd := 5) (n := 5) rfl (by decide)) (by decide) (show nI e = nI e from (rfl : nI e = nI e)) (by omega) (gR_15 (by omega)) ?_
  exact o1 s1 es1

theorem b_104_34 {X : Nat × (Nat → Int32)} {d : Nat} {p : Nat → Nat} {sg : Mg} {Q : am_R → Prop} {B : Nat} {S : Nat → Int32} (hI : Inv B S) (hL : cwL 250 sg S) (hD : cwD 200 sg S) {k : Nat} {m : Nat} {z3 : Option AV} {z4 : Option AV} {r : Nat} {e : Nat} {b : Nat} {j : Nat} {z10 : Option AV} {z11 : Option AV} (u_k : k ≤ 7) (u_m : m ≤ 255) (u_r : r ≤ 200406) (u_e : e ≤ 4) (u_400snS8 : 400 + sn S 8 ≤ 200400) (u_b : b ≤ 2000000000) (u_j : j ≤ 8)
    (o1 : (sn S 5 ≤ j) → Q (gRv p sg (nI b)))
    (o2 : (¬ (sn S 5 ≤ j)) → (((nI m >>> (nI j &&& 31)) &&& 1) = 0) → gW X (d + 6) k_104 34 [some (vR 8), some (vI (nI k)), some (vI (nI m)), z3, z4, some (vI (nI r)), some (vI (nI e)), some (vI (nI (400 + sn S 8))), some (vI (nI b)), some (vI (nI (j + 1))), some (vI 2000000000), z11] [] p sg Q)
    (o3 : (¬ (sn S 5 ≤ j)) → (¬ (((nI m >>> (nI j &&& 31)) &&& 1) = 0)) → gW X (d + 6) k_104 55 [some (vR 8), some (vI (nI k)), some (vI (nI m)), z3, z4, some (vI (nI r)), some (vI (nI e)), some (vI (nI (400 + sn S 8))), some (vI (nI b)), some (vI (nI j)), z10, z11] [vR (165 + e), vI (nI r), vI (nI m), vI (nI j), vR 8] p sg Q) :
    gW X (d + 6) k_104 34 [some (vR 8), some (vI (nI k)), some (vI (nI m)), z3, z4, some (vI (nI r)), some (vI (nI e)), some (vI (nI (400 + sn S 8))), some (vI (nI b)), some (vI (nI j)), z10, z11] [] p sg Q := by
  have b0 := hI.b0; have b1 := hI.b1; have b2 := hI.b2; have b3 := hI.b3; have b4 := hI.b4; have b5 := hI.b5; have b6 := hI.b6; have b7 := hI.b7; have b8 := hI.b8; have b9 := hI.b9; have b14 := hI.b14
  refine g_pure 5 (i' := 39) (lv' := [some (vR 8), some (vI (nI k)), some (vI (nI m)), z3, z4, some (vI (nI r)), some (vI (nI e)), some (vI (nI (400 + sn S 8))), some (vI (nI b)), some (vI (nI j)), z10, z11]) (st' := [vI 5, vR 203, vI (nI j)]) rfl ?_
  refine g_ald rfl (g_A (a := 203) (kd := 1) (n := 6) rfl (by decide)) (by decide) (show 5 = nI 5 from (show (5 : Int32) = nI 5 from rfl)) (by decide) (show _ = S 5 from (hD.cnt (by decide))) ?_
  refine g_if2 (i' := 105) (P := sn S 5 ≤ j) rfl rfl (g_geN (show nI j = nI j from (rfl : nI j = nI j)) (show S 5 = nI (sn S 5) from (hI.c5)) (by omega) (by omega)) (fun h1 => ?_) (fun h1 => ?_)
  · refine g_pure 1 (i' := 106) (lv' := [some (vR 8), some (vI (nI k)), some (vI (nI m)), z3, z4, some (vI (nI r)), some (vI (nI e)), some (vI (nI (400 + sn S 8))), some (vI (nI b)), some (vI (nI j)), z10, z11]) (st' := [vI (nI b)]) rfl ?_
    refine g_iret rfl ?_
    exact o1 h1
  · refine g_pure 5 (i' := 46) (lv' := [some (vR 8), some (vI (nI k)), some (vI (nI m)), z3, z4, some (vI (nI r)), some (vI (nI e)), some (vI (nI (400 + sn S 8))), some (vI (nI b)), some (vI (nI j)), z10, z11]) (st' := [vI ((nI m >>> (nI j &&& 31)) &&& 1)]) rfl ?_
    refine g_if1 (i' := 57) (P := ((nI m >>> (nI j &&& 31)) &&& 1) = 0) rfl rfl Iff.rfl (fun h2 => ?_) (fun h2 => ?_)
    · refine g_pure 4 (i' := 61) (lv' := [some (vR 8), some (vI (nI k)), some (vI (nI m)), z3, z4, some (vI (nI r)), some (vI (nI e)), some (vI (nI (400 + sn S 8))), some (vI (nI b)), some (vI (nI j)), some (vI 2000000000), z11]) (st' := [vI (nI (400 + sn S 8)), vI 2000000000]) rfl ?_
      refine g_if2 (i' := 103) (P := 400 + sn S 8 < 2000000000) rfl rfl (g_gtN (show 2000000000 = nI 2000000000 from (show (2000000000 : Int32) = nI 2000000000 from rfl)) (show nI (400 + sn S 8) = nI (400 + sn S 8) from (rfl : nI (400 + sn S 8) = nI (400 + sn S 8))) (by omega) (by omega)) (fun _ => ?_) (fun h3 => absurd (by omega) h3)
      refine g_pure 2 (i' := 34) (lv' := [some (vR 8), some (vI (nI k)), some (vI (nI m)), z3, z4, some (vI (nI r)), some (vI (nI e)), some (vI (nI (400 + sn S 8))), some (vI (nI b)), some (vI (nI j + 1)), some (vI 2000000000), z11]) (st' := []) rfl ?_
      refine gW_eq (lv' := [some (vR 8), some (vI (nI k)), some (vI (nI m)), z3, z4, some (vI (nI r)), some (vI (nI e)), some (vI (nI (400 + sn S 8))), some (vI (nI b)), some (vI (nI (j + 1))), some (vI 2000000000), z11]) (st' := []) (by rw [(show (nI j + 1) = nI (j + 1) from ((g_add (rfl : nI j = nI j) (show (1 : Int32) = nI 1 from rfl))).trans (congrArg nI (by omega)))]) rfl rfl ?_
      exact o2 h1 h2
    · refine g_pure 7 (i' := 54) (lv' := [some (vR 8), some (vI (nI k)), some (vI (nI m)), z3, z4, some (vI (nI r)), some (vI (nI e)), some (vI (nI (400 + sn S 8))), some (vI (nI b)), some (vI (nI j)), z10, z11]) (st' := [vI (nI e), vR 15, vI (nI r), vI (nI m), vI (nI j), vR 8]) rfl ?_
      refine g_aald rfl (Or.inl rfl) (g_A (a := 15) (kd := 5) (n := 5) rfl (by decide)) (by decide) (show nI e = nI e from (rfl : nI e = nI e)) (by omega) (gR_15 (by omega)) ?_
      exact o3 h1 h2

theorem b_104_59 {X : Nat × (Nat → Int32)} {d : Nat} {p : Nat → Nat} {sg : Mg} {Q : am_R → Prop} {B : Nat} {S : Nat → Int32} (hI : Inv B S) (hL : cwL 250 sg S) (hD : cwD 200 sg S) {k : Nat} {m : Nat} {z3 : Option AV} {z4 : Option AV} {r : Nat} {e : Nat} {b : Nat} {j : Nat} {t : Nat} {z11 : Option AV} (u_k : k ≤ 7) (u_m : m ≤ 255) (u_r : r ≤ 200406) (u_e : e ≤ 4) (u_400snS8 : 400 + sn S 8 ≤ 200400) (u_b : b ≤ 2000000000) (u_j : j ≤ 8) (u_t : t ≤ 2000000000) (q1 : j < sn S 5)
    (o1 : (400 + sn S 8 < t) → gW X (d + 6) k_104 34 [some (vR 8), some (vI (nI k)), some (vI (nI m)), z3, z4, some (vI (nI r)), some (vI (nI e)), some (vI (nI (400 + sn S 8))), some (vI (nI b)), some (vI (nI (j + 1))), some (vI (nI t)), z11] [] p sg Q)
    (o2 : (¬ (400 + sn S 8 < t)) → (b ≤ t) → gW X (d + 6) k_104 34 [some (vR 8), some (vI (nI k)), some (vI (nI m)), z3, z4, some (vI (nI r)), some (vI (nI e)), some (vI (nI (400 + sn S 8))), some (vI (nI b)), some (vI (nI (j + 1))), some (vI (nI t)), z11] [] p sg Q)
    (o3 : (¬ (400 + sn S 8 < t)) → (¬ (b ≤ t)) → gW X (d + 6) k_104 88 [some (vR 8), some (vI (nI k)), some (vI (nI m)), z3, z4, some (vI (nI r)), some (vI (nI e)), some (vI (nI (400 + sn S 8))), some (vI (nI b)), some (vI (nI j)), some (vI (nI t)), z11] [vI (nI (e + 1)), vI (nI (t + 1)), vI (nI t), vI (S (269 + 5 * j)), vI (nI m &&& ((1 <<< (nI j &&& 31)) ^^^ (-1))), vI (nI k), vR 8] p sg Q) :
    gW X (d + 6) k_104 59 [some (vR 8), some (vI (nI k)), some (vI (nI m)), z3, z4, some (vI (nI r)), some (vI (nI e)), some (vI (nI (400 + sn S 8))), some (vI (nI b)), some (vI (nI j)), some (vI (nI t)), z11] [] p sg Q := by
  have b0 := hI.b0; have b1 := hI.b1; have b2 := hI.b2; have b3 := hI.b3; have b4 := hI.b4; have b5 := hI.b5; have b6 := hI.b6; have b7 := hI.b7; have b8 := hI.b8; have b9 := hI.b9; have b14 := hI.b14
  refine g_pure 2 (i' := 61) (lv' := [some (vR 8), some (vI (nI k)), some (vI (nI m)), z3, z4, some (vI (nI r)), some (vI (nI e)), some (vI (nI (400 + sn S 8))), some (vI (nI b)), some (vI (nI j)), some (vI (nI t)), z11]) (st' := [vI (nI (400 + sn S 8)), vI (nI t)]) rfl ?_
  refine g_if2 (i' := 103) (P := 400 + sn S 8 < t) rfl rfl (g_gtN (show nI t = nI t from (rfl : nI t = nI t)) (show nI (400 + sn S 8) = nI (400 + sn S 8) from (rfl : nI (400 + sn S 8) = nI (400 + sn S 8))) (by omega) (by omega)) (fun h1 => ?_) (fun h1 => ?_)
  · refine g_pure 2 (i' := 34) (lv' := [some (vR 8), some (vI (nI k)), some (vI (nI m)), z3, z4, some (vI (nI r)), some (vI (nI e)), some (vI (nI (400 + sn S 8))), some (vI (nI b)), some (vI (nI j + 1)), some (vI (nI t)), z11]) (st' := []) rfl ?_
    refine gW_eq (lv' := [some (vR 8), some (vI (nI k)), some (vI (nI m)), z3, z4, some (vI (nI r)), some (vI (nI e)), some (vI (nI (400 + sn S 8))), some (vI (nI b)), some (vI (nI (j + 1))), some (vI (nI t)), z11]) (st' := []) (by rw [(show (nI j + 1) = nI (j + 1) from ((g_add (rfl : nI j = nI j) (show (1 : Int32) = nI 1 from rfl))).trans (congrArg nI (by omega)))]) rfl rfl ?_
    exact o1 h1
  · refine g_pure 2 (i' := 64) (lv' := [some (vR 8), some (vI (nI k)), some (vI (nI m)), z3, z4, some (vI (nI r)), some (vI (nI e)), some (vI (nI (400 + sn S 8))), some (vI (nI b)), some (vI (nI j)), some (vI (nI t)), z11]) (st' := [vI (nI b), vI (nI t)]) rfl ?_
    refine g_if2 (i' := 103) (P := b ≤ t) rfl rfl (g_geN (show nI t = nI t from (rfl : nI t = nI t)) (show nI b = nI b from (rfl : nI b = nI b)) (by omega) (by omega)) (fun h2 => ?_) (fun h2 => ?_)
    · refine g_pure 2 (i' := 34) (lv' := [some (vR 8), some (vI (nI k)), some (vI (nI m)), z3, z4, some (vI (nI r)), some (vI (nI e)), some (vI (nI (400 + sn S 8))), some (vI (nI b)), some (vI (nI j + 1)), some (vI (nI t)), z11]) (st' := []) rfl ?_
      refine gW_eq (lv' := [some (vR 8), some (vI (nI k)), some (vI (nI m)), z3, z4, some (vI (nI r)), some (vI (nI e)), some (vI (nI (400 + sn S 8))), some (vI (nI b)), some (vI (nI (j + 1))), some (vI (nI t)), z11]) (st' := []) (by rw [(show (nI j + 1) = nI (j + 1) from ((g_add (rfl : nI j = nI j) (show (1 : Int32) = nI 1 from rfl))).trans (congrArg nI (by omega)))]) rfl rfl ?_
      exact o2 h1 h2
    · refine g_pure 13 (i' := 78) (lv' := [some (vR 8), some (vI (nI k)), some (vI (nI m)), z3, z4, some (vI (nI r)), some (vI (nI e)), some (vI (nI (400 + sn S 8))), some (vI (nI b)), some (vI (nI j)), some (vI (nI t)), z11]) (st' := [vI (nI j), vR 207, vI (nI m &&& ((1 <<< (nI j &&& 31)) ^^^ (-1))), vI (nI k), vR 8]) rfl ?_
      refine g_aald rfl (Or.inl rfl) (g_A (a := 207) (kd := 5) (n := 8) rfl (by decide)) (by decide) (show nI j = nI j from (rfl : nI j = nI j)) (by omega) (gR_207 (by omega)) ?_
      refine g_pure 1 (i' := 80) (lv' := [some (vR 8), some (vI (nI k)), some (vI (nI m)), z3, z4, some (vI (nI r)), some (vI (nI e)), some (vI (nI (400 + sn S 8))), some (vI (nI b)), some (vI (nI j)), some (vI (nI t)), z11]) (st' := [vI 0, vR (242 + j), vI (nI m &&& ((1 <<< (nI j &&& 31)) ^^^ (-1))), vI (nI k), vR 8]) rfl ?_
      refine g_ald rfl (gA_207 (by omega)) (by decide) (show 0 = nI 0 from (show (0 : Int32) = nI 0 from rfl)) (by decide) (show _ = S (269 + 5 * j) from (hD.tas 0 (by omega) (by decide))) ?_
      refine g_pure 7 (i' := 88) (lv' := [some (vR 8), some (vI (nI k)), some (vI (nI m)), z3, z4, some (vI (nI r)), some (vI (nI e)), some (vI (nI (400 + sn S 8))), some (vI (nI b)), some (vI (nI j)), some (vI (nI t)), z11]) (st' := [vI (nI e + 1), vI (nI t + 1), vI (nI t), vI (S (269 + 5 * j)), vI (nI m &&& ((1 <<< (nI j &&& 31)) ^^^ (-1))), vI (nI k), vR 8]) rfl ?_
      refine gW_eq (lv' := [some (vR 8), some (vI (nI k)), some (vI (nI m)), z3, z4, some (vI (nI r)), some (vI (nI e)), some (vI (nI (400 + sn S 8))), some (vI (nI b)), some (vI (nI j)), some (vI (nI t)), z11]) (st' := [vI (nI (e + 1)), vI (nI (t + 1)), vI (nI t), vI (S (269 + 5 * j)), vI (nI m &&& ((1 <<< (nI j &&& 31)) ^^^ (-1))), vI (nI k), vR 8]) rfl (by rw [(show (nI e + 1) = nI (e + 1) from ((g_add (rfl : nI e = nI e) (show (1 : Int32) = nI 1 from rfl))).trans (congrArg nI (by omega))), (show (nI t + 1) = nI (t + 1) from ((g_add (rfl : nI t = nI t) (show (1 : Int32) = nI 1 from rfl))).trans (congrArg nI (by omega)))]) rfl ?_
      exact o3 h1 h2

theorem b_104_90 {X : Nat × (Nat → Int32)} {d : Nat} {p : Nat → Nat} {sg : Mg} {Q : am_R → Prop} {B : Nat} {S : Nat → Int32} (hI : Inv B S) (hL : cwL 250 sg S) (hD : cwD 200 sg S) {k : Nat} {m : Nat} {z3 : Option AV} {z4 : Option AV} {r : Nat} {e : Nat} {b : Nat} {j : Nat} {z10 : Option AV} {y : Nat} (u_k : k ≤ 7) (u_m : m ≤ 255) (u_r : r ≤ 200406) (u_e : e ≤ 4) (u_400snS8 : 400 + sn S 8 ≤ 200400) (u_b : b ≤ 2000000000) (u_j : j ≤ 8) (u_y : y ≤ 2000000000)
    (o1 : (b ≤ y) → gW X (d + 6) k_104 34 [some (vR 8), some (vI (nI k)), some (vI (nI m)), z3, z4, some (vI (nI r)), some (vI (nI e)), some (vI (nI (400 + sn S 8))), some (vI (nI b)), some (vI (nI (j + 1))), z10, some (vI (nI y))] [] p sg Q)
    (o2 : (¬ (b ≤ y)) → (¬ e = 0) → ∀ s3 : Mg, s3 = mu sg 8 11 (sg 8 11) → gW X (d + 6) k_104 34 [some (vR 8), some (vI (nI k)), some (vI (nI m)), z3, z4, some (vI (nI r)), some (vI (nI e)), some (vI (nI (400 + sn S 8))), some (vI (nI y)), some (vI (nI (j + 1))), z10, some (vI (nI y))] [] p s3 Q)
    (o3 : (¬ (b ≤ y)) → (e = 0) → ∀ s4 : Mg, s4 = mu sg 8 11 (nI j) → gW X (d + 6) k_104 34 [some (vR 8), some (vI (nI k)), some (vI (nI m)), z3, z4, some (vI (nI r)), some (vI (nI e)), some (vI (nI (400 + sn S 8))), some (vI (nI y)), some (vI (nI (j + 1))), z10, some (vI (nI y))] [] p s4 Q) :
    gW X (d + 6) k_104 90 [some (vR 8), some (vI (nI k)), some (vI (nI m)), z3, z4, some (vI (nI r)), some (vI (nI e)), some (vI (nI (400 + sn S 8))), some (vI (nI b)), some (vI (nI j)), z10, some (vI (nI y))] [] p sg Q := by
  have b0 := hI.b0; have b1 := hI.b1; have b2 := hI.b2; have b3 := hI.b3; have b4 := hI.b4; have b5 := hI.b5; have b6 := hI.b6; have b7 := hI.b7; have b8 := hI.b8; have b9 := hI.b9; have b14 := hI.b14
  refine g_pure 2 (i' := 92) (lv' := [some (vR 8), some (vI (nI k)), some (vI (nI m)), z3, z4, some (vI (nI r)), some (vI (nI e)), some (vI (nI (400 + sn S 8))), some (vI (nI b)), some (vI (nI j)), z10, some (vI (nI y))]) (st' := [vI (nI b), vI (nI y)]) rfl ?_
  refine g_if2 (i' := 103) (P := b ≤ y) rfl rfl (g_geN (show nI y = nI y from (rfl : nI y = nI y)) (show nI b = nI b from (rfl : nI b = nI b)) (by omega) (by omega)) (fun h1 => ?_) (fun h1 => ?_)
  · refine g_pure 2 (i' := 34) (lv' := [some (vR 8), some (vI (nI k)), some (vI (nI m)), z3, z4, some (vI (nI r)), some (vI (nI e)), some (vI (nI (400 + sn S 8))), some (vI (nI b)), some (vI (nI j + 1)), z10, some (vI (nI y))]) (st' := []) rfl ?_
    refine gW_eq (lv' := [some (vR 8), some (vI (nI k)), some (vI (nI m)), z3, z4, some (vI (nI r)), some (vI (nI e)), some (vI (nI (400 + sn S 8))), some (vI (nI b)), some (vI (nI (j + 1))), z10, some (vI (nI y))]) (st' := []) (by rw [(show (nI j + 1) = nI (j + 1) from ((g_add (rfl : nI j = nI j) (show (1 : Int32) = nI 1 from rfl))).trans (congrArg nI (by omega)))]) rfl rfl ?_
    exact o1 h1
  · refine g_pure 4 (i' := 97) (lv' := [some (vR 8), some (vI (nI k)), some (vI (nI m)), z3, z4, some (vI (nI r)), some (vI (nI e)), some (vI (nI (400 + sn S 8))), some (vI (nI y)), some (vI (nI j)), z10, some (vI (nI y))]) (st' := [vI (nI e), vR 8]) rfl ?_
    refine g_if1 (i' := 100) (P := ¬ e = 0) rfl rfl (g_neN (show nI e = nI e from (rfl : nI e = nI e)) (show 0 = nI 0 from (show (0 : Int32) = nI 0 from rfl)) (by omega) (by omega)) (fun h2 => ?_) (fun h2 => ?_)
    · refine g_pure 2 (i' := 102) (lv' := [some (vR 8), some (vI (nI k)), some (vI (nI m)), z3, z4, some (vI (nI r)), some (vI (nI e)), some (vI (nI (400 + sn S 8))), some (vI (nI y)), some (vI (nI j)), z10, some (vI (nI y))]) (st' := [vI (sg 8 11), vR 8]) rfl ?_
      refine g_putI rfl (g_A (a := 8) (kd := 0) (n := 9) rfl (by decide)) ?_
      refine g_setv (fun s3 es3 => ?_)
      have hLs3 : cwL 250 s3 S := by rw [es3]; exact hL.out (by decide)
      have hDs3 : cwD 200 s3 S := by rw [es3]; exact hD.out (by decide)
      refine g_pure 2 (i' := 34) (lv' := [some (vR 8), some (vI (nI k)), some (vI (nI m)), z3, z4, some (vI (nI r)), some (vI (nI e)), some (vI (nI (400 + sn S 8))), some (vI (nI y)), some (vI (nI j + 1)), z10, some (vI (nI y))]) (st' := []) rfl ?_
      refine gW_eq (lv' := [some (vR 8), some (vI (nI k)), some (vI (nI m)), z3, z4, some (vI (nI r)), some (vI (nI e)), some (vI (nI (400 + sn S 8))), some (vI (nI y)), some (vI (nI (j + 1))), z10, some (vI (nI y))]) (st' := []) (by rw [(show (nI j + 1) = nI (j + 1) from ((g_add (rfl : nI j = nI j) (show (1 : Int32) = nI 1 from rfl))).trans (congrArg nI (by omega)))]) rfl rfl ?_
      exact o2 h1 h2 s3 es3
    · have h2 := Classical.not_not.mp h2
      refine g_pure 2 (i' := 102) (lv' := [some (vR 8), some (vI (nI k)), some (vI (nI m)), z3, z4, some (vI (nI r)), some (vI (nI e)), some (vI (nI (400 + sn S 8))), some (vI (nI y)), some (vI (nI j)), z10, some (vI (nI y))]) (st' := [vI (nI j), vR 8]) rfl ?_
      refine g_putI rfl (g_A (a := 8) (kd := 0) (n := 9) rfl (by decide)) ?_
      refine g_setv (fun s4 es4 => ?_)
      have hLs4 : cwL 250 s4 S := by rw [es4]; exact hL.out (by decide)
      have hDs4 : cwD 200 s4 S := by rw [es4]; exact hD.out (by decide)
      refine g_pure 2 (i' := 34) (lv' := [some (vR 8), some (vI (nI k)), some (vI (nI m)), z3, z4, some (vI (nI r)), some (vI (nI e)), some (vI (nI (400 + sn S 8))), some (vI (nI y)), some (vI (nI j + 1)), z10, some (vI (nI y))]) (st' := []) rfl ?_
      refine gW_eq (lv' := [some (vR 8), some (vI (nI k)), some (vI (nI m)), z3, z4, some (vI (nI r)), some (vI (nI e)), some (vI (nI (400 + sn S 8))), some (vI (nI y)), some (vI (nI (j + 1))), z10, some (vI (nI y))]) (st' := []) (by rw [(show (nI j + 1) = nI (j + 1) from ((g_add (rfl : nI j = nI j) (show (1 : Int32) = nI 1 from rfl))).trans (congrArg nI (by omega)))]) rfl rfl ?_
      exact o3 h1 h2 s4 es4

/-- when a task is done at the soonest, by one who gets to its place at x -/
def dsV (S : Nat → Int32) (R r j x : Nat) : Nat := if (S (269 + 5 * j + 2) = -1 ∨ R.testBit (sn S (269 + 5 * j + 2)) = false) ∧ ¬ x = 2000000000 then nxt S (sn S (269 + 5 * j)) (sn S (269 + 5 * j + 1)) (max x r) else 2000000000
theorem s_105 {X : Nat × (Nat → Int32)} {d : Nat} {p : Nat → Nat} {sg : Mg} {B : Nat} {S : Nat → Int32} (hI : Inv B S) (hL : cwL 250 sg S) (hD : cwD 200 sg S) {c j m r x : Nat} (hA : am_A (gE p) c 1 6) (hj : j < sn S 5) (hm : m < 256) (hr : r ≤ 200406) (hx : sg c (sn S (269 + 5 * j)) = nI x) (hx2 : x ≤ 200400 ∨ x = 2000000000) : gF X (d + 5) 105 [vR 8, vI (nI j), vI (nI m), vI (nI r), vR c] p sg (fun q => q = gRv p sg (nI (dsV S m r j x))) := by
  have b5 := hI.b5
  have hk := hI.2.2.2.2.2.2 j hj
  have hb : ¬ S (269 + 5 * j + 2) = -1 → (((nI m >>> (S (269 + 5 * j + 2) &&& 31)) &&& 1) = 0 ↔ m.testBit (sn S (269 + 5 * j + 2)) = false) := fun h1 => by
    have h2 := hk.2.2.1.resolve_left h1
    have h3 := nI_bit0 (a := m) (k := sn S (269 + 5 * j + 2)) (by omega) (by have := h2.2; omega)
    rw [← h2.1] at h3
    exact h3
  refine g_in (cd := k_105) (nL := 8) (rc := 10) rfl (g_A (a := 8) (kd := 0) (n := 9) rfl (by decide)) (g_c1 rfl) (b_105_0 hI hL hD hA (by omega) (by omega) hr hj hx hx2 (fun h1 h2 => ?_) (fun h1 h2 => ?_) (fun h1 h2 h3 => ?_) (fun h1 h2 h3 => ?_) (fun h1 h2 => ?_))
  · unfold dsV
    rw [if_pos ⟨Or.inl h1, h2⟩]
    rfl
  · unfold dsV
    rw [if_neg (fun h => h.2 h2)]
    rfl
  · unfold dsV
    rw [if_pos ⟨Or.inr ((hb h1).mp h2), h3⟩]
    rfl
  · unfold dsV
    rw [if_neg (fun h => h.2 h3)]
    rfl
  · unfold dsV
    rw [if_neg (fun h => h.1.elim h1 (fun h => h2 ((hb h1).mpr h)))]
    rfl
/-- what must be done ahead of the tasks is done, or among them -/
def aaP (S : Nat → Int32) (R n : Nat) : Prop := ∀ j, j < n → R.testBit j = true → S (269 + 5 * j + 2) = -1 ∨ ¬ S (269 + 5 * sn S (269 + 5 * j + 2) + 3) = -1 ∨ R.testBit (sn S (269 + 5 * j + 2)) = true
noncomputable def aaB (S : Nat → Int32) (R : Nat) : Bool := @decide (aaP S R (sn S 5)) (Classical.propDecidable _)
theorem aaB_t {S : Nat → Int32} {R : Nat} (h : aaP S R (sn S 5)) : aaB S R = true := @decide_eq_true _ (Classical.propDecidable _) h
theorem aaB_f {S : Nat → Int32} {R : Nat} (h : ¬ aaP S R (sn S 5)) : aaB S R = false := @decide_eq_false _ (Classical.propDecidable _) h
theorem aaP.up {S : Nat → Int32} {R n : Nat} (h : aaP S R n) (g : R.testBit n = true → S (269 + 5 * n + 2) = -1 ∨ ¬ S (269 + 5 * sn S (269 + 5 * n + 2) + 3) = -1 ∨ R.testBit (sn S (269 + 5 * n + 2)) = true) : aaP S R (n + 1) := fun j hj hb => by
  by_cases e : j = n
  · subst e; exact g hb
  · exact h j (by omega) hb
theorem s_103 {X : Nat × (Nat → Int32)} {d : Nat} {p : Nat → Nat} {sg : Mg} {B : Nat} {S : Nat → Int32} (hI : Inv B S) (hL : cwL 250 sg S) (hD : cwD 200 sg S) {m : Nat} (hm : m < 256) : gF X (d + 3) 103 [vR 8, vI (nI m)] p sg (fun q => q = gRv p sg (if aaB S m = true then 1 else 0)) := by
  have b5 := hI.b5
  refine g_in (cd := k_103) (nL := 5) (rc := 10) rfl (g_A (a := 8) (kd := 0) (n := 9) rfl (by decide)) (g_c1 rfl) (b_103_0 hI hL hD (by omega) ?_)
  have key := g_upI (P := fun j => ∀ z3 z4, gW X (d + 2) k_103 2 [some (vR 8), some (vI (nI m)), some (vI (nI j)), z3, z4] [] p sg (fun q => q = gRv p sg (if aaB S m = true then 1 else 0))) (I := fun j => aaP S m j) (n := sn S 5) (a := 0) (by omega) (fun j hj => absurd hj (by omega)) ?_ ?_
  · exact key _ _
  · intro j _ hj hin ih z3 z4
    have hk := hI.2.2.2.2.2.2 j hj
    have hbj := nI_bit0 (a := m) (k := j) (by omega) (by omega)
    have hb : ¬ S (269 + 5 * j + 2) = -1 → (((nI m >>> (S (269 + 5 * j + 2) &&& 31)) &&& 1) = 0 ↔ m.testBit (sn S (269 + 5 * j + 2)) = false) := fun h1 => by
      have h2 := hk.2.2.1.resolve_left h1
      have h3 := nI_bit0 (a := m) (k := sn S (269 + 5 * j + 2)) (by omega) (by have := h2.2; omega)
      rw [← h2.1] at h3
      exact h3
    have hsn : ∀ k6, S (269 + 5 * j + 2) = nI k6 → k6 < 8 → sn S (269 + 5 * j + 2) = k6 := fun k6 h1 h2 => by unfold sn; rw [h1, nI_clamp (by omega)]
    refine b_103_2 hI hL hD (by omega) (by omega) (fun h => by omega) (fun _ h => ih (hin.up (fun h2 => ?_)) _ _) (fun _ _ h => ih (hin.up (fun h2 => Or.inl h)) _ _) (fun _ _ h => ?_) (fun _ _ h k6 e6 l6 h3 => ih (hin.up (fun h2 => Or.inr (Or.inl ?_))) _ _) (fun _ _ h k6 e6 l6 h3 h4 => ih (hin.up (fun h2 => Or.inr (Or.inr ?_))) _ _) (fun _ h2 h k6 e6 l6 h3 h4 => ?_)
    · rw [hbj.mp h] at h2; cases h2
    · have := hk.2.2.1.resolve_left h
      exact ⟨_, this.1, by have := this.2; omega⟩
    · rw [hsn k6 e6 l6]; exact h3
    · by_cases h5 : m.testBit (sn S (269 + 5 * j + 2)) = true
      · exact h5
      · exact absurd ((hb h).mpr (by simpa using h5)) h4
    · have h5 := (hb h).mp h4
      rw [aaB_f (fun g => by
        rcases g j hj (Classical.byContradiction (fun h6 => h2 (hbj.mpr (by simpa using h6)))) with g | g | g
        · exact h g
        · rw [hsn k6 e6 l6] at g; exact g h3
        · rw [h5] at g; cases g)]
      rfl
  · intro hin z3 z4
    refine b_103_2 hI hL hD (by omega) (by omega) (fun _ => ?_) (fun h => by omega) (fun h => by omega) (fun h => by omega) (fun h => by omega) (fun h => by omega) (fun h => by omega)
    rw [aaB_t hin]
    rfl
/-- the least of P, or that there is none up to L -/
def leP (P : Nat → Prop) (L x : Nat) : Prop := (x = 2000000000 ∧ ∀ y, y ≤ L → ¬ P y) ∨ (x ≤ L ∧ P x ∧ ∀ y, P y → x ≤ y)
theorem leP.le {P : Nat → Prop} {L x : Nat} (h : leP P L x) (hL : L < 2000000000) : x ≤ 2000000000 := by
  rcases h with h | h <;> omega
theorem leP.no {P : Nat → Prop} {L : Nat} (h : ∀ y, y ≤ L → ¬ P y) : leP P L 2000000000 := Or.inl ⟨rfl, h⟩
theorem leP.eqv {P Q : Nat → Prop} {L x : Nat} (h : leP P L x) (e : ∀ y, Q y ↔ P y) : leP Q L x := by
  rcases h with ⟨h1, h2⟩ | ⟨h1, h2, h3⟩
  · exact Or.inl ⟨h1, fun y hy g => h2 y hy ((e y).mp g)⟩
  · exact Or.inr ⟨h1, (e x).mpr h2, fun y g => h3 y ((e y).mp g)⟩
theorem leP.or {P Q : Nat → Prop} {L x z : Nat} (hL : L < 2000000000) (a : leP P L x) (b : leP Q L z) : leP (fun y => P y ∨ Q y) L (if x ≤ z then x else z) := by
  rcases a with ⟨a1, a2⟩ | ⟨a1, a2, a3⟩ <;> rcases b with ⟨b1, b2⟩ | ⟨b1, b2, b3⟩
  · rw [if_pos (by omega)]
    exact Or.inl ⟨a1, fun y hy g => g.elim (a2 y hy) (b2 y hy)⟩
  · rw [if_neg (by omega)]
    refine Or.inr ⟨b1, Or.inr b2, fun y g => g.elim (fun g => ?_) (b3 y)⟩
    rcases Nat.lt_or_ge y z with h | h
    · exact absurd g (a2 y (by omega))
    · exact h
  · rw [if_pos (by omega)]
    refine Or.inr ⟨a1, Or.inl a2, fun y g => g.elim (a3 y) (fun g => ?_)⟩
    rcases Nat.lt_or_ge y x with h | h
    · exact absurd g (b2 y (by omega))
    · exact h
  · by_cases h : x ≤ z
    · rw [if_pos h]
      exact Or.inr ⟨a1, Or.inl a2, fun y g => g.elim (a3 y) (fun g => Nat.le_trans h (b3 y g))⟩
    · rw [if_neg h]
      exact Or.inr ⟨b1, Or.inr b2, fun y g => g.elim (fun g => by have := a3 y g; omega) (b3 y)⟩
theorem leP.skip {P Q : Nat → Prop} {L x : Nat} (hL : L < 2000000000) (a : leP P L x) (b : ∀ y, y ≤ L → Q y → x ≤ y) : leP (fun y => P y ∨ Q y) L x := by
  rcases a with ⟨a1, a2⟩ | ⟨a1, a2, a3⟩
  · exact Or.inl ⟨a1, fun y hy g => g.elim (a2 y hy) (fun g => by have := b y hy g; omega)⟩
  · refine Or.inr ⟨a1, Or.inl a2, fun y g => g.elim (a3 y) (fun g => ?_)⟩
    rcases Nat.lt_or_ge L y with h | h
    · omega
    · exact b y h g
theorem ds_min {B : Nat} {S : Nat → Int32} (hI : Inv B S) {k R v h r j tm L : Nat} {F : Nat → Nat} (hL : L < 2000000000) (hP : spP S k v h L F) (g : stpP S k R v h r j tm) (ht : tm ≤ L) : dsV S R r j (F (sn S (269 + 5 * j))) ≤ tm := by
  have hk := hI.2.2.2.2.2.2 j g.1
  have h1 := hP.2 tm _ hk.1.2 ht g.2.2.2.1
  unfold dsV
  rw [if_pos ⟨g.2.2.1, by omega⟩]
  rcases Nat.lt_or_ge tm (nxt S (sn S (269 + 5 * j)) (sn S (269 + 5 * j + 1)) (max (F (sn S (269 + 5 * j))) r)) with h9 | h9
  · exact absurd g.2.2.2.2.2 (nxt_no hI hk.1.2 hk.2.1.2 (Nat.max_le.mpr ⟨h1, g.2.2.2.2.1⟩) h9)
  · exact h9
theorem ds_ok {B : Nat} {S : Nat → Int32} (hI : Inv B S) {k R v h r j L : Nat} {F : Nat → Nat} (hL : L < 2000000000) (hP : spP S k v h L F) (hj : j < sn S 5) (hb : R.testBit j = true) (ht : dsV S R r j (F (sn S (269 + 5 * j))) ≤ L) : stpP S k R v h r j (dsV S R r j (F (sn S (269 + 5 * j)))) := by
  have hk := hI.2.2.2.2.2.2 j hj
  by_cases c : (S (269 + 5 * j + 2) = -1 ∨ R.testBit (sn S (269 + 5 * j + 2)) = false) ∧ ¬ F (sn S (269 + 5 * j)) = 2000000000
  · unfold dsV
    rw [if_pos c]
    have h1 := (hP.1 _ hk.1.2).resolve_left c.2
    have h2 : max (F (sn S (269 + 5 * j))) r ≤ nxt S (sn S (269 + 5 * j)) (sn S (269 + 5 * j + 1)) (max (F (sn S (269 + 5 * j))) r) := Nat.le_add_right _ _
    refine ⟨hj, hb, c.1, h1.2.mono (by omega), by omega, ?_⟩
    show sn S _ = _
    rw [nxt_mod hI _ hk.1.2 hk.2.1.2]
    exact (pgf_ok hI hk.1.2 hk.2.1.2).2.1
  · unfold dsV at ht
    rw [if_neg c] at ht
    omega
theorem ds_q {B : Nat} {S : Nat → Int32} (hI : Inv B S) {k n R v h r j L y : Nat} {F : Nat → Nat} (hL : L < 2000000000) (hP : spP S k v h L F) (g : CHq S k n R v h r j y) (hy : y ≤ L) : dsV S R r j (F (sn S (269 + 5 * j))) ≤ y := by
  obtain ⟨tm, g1, g2⟩ := g.ge
  exact Nat.le_trans (ds_min hI hL hP g1 (by omega)) g2
/-- the greedy choice -/
theorem ds_le {B : Nat} {S : Nat → Int32} (hI : Inv B S) {k n R v h r j L z : Nat} {F : Nat → Nat} (hL : L < 2000000000) (hP : spP S k v h L F) (hj : j < sn S 5) (hb : R.testBit j = true) (ht : dsV S R r j (F (sn S (269 + 5 * j))) ≤ L)
    (g : leP (CH S k n (R ^^^ 2 ^ j) (sn S (269 + 5 * j)) (dsV S R r j (F (sn S (269 + 5 * j)))) (dsV S R r j (F (sn S (269 + 5 * j))) + 1)) L z) : leP (CHq S k n R v h r j) L z := by
  have h1 := ds_ok hI hL hP hj hb ht
  have h2 : ∀ y, y ≤ L → CHq S k n R v h r j y → ∃ y', y' ≤ y ∧ CH S k n (R ^^^ 2 ^ j) (sn S (269 + 5 * j)) (dsV S R r j (F (sn S (269 + 5 * j)))) (dsV S R r j (F (sn S (269 + 5 * j))) + 1) y' := fun y hy ⟨tm, g1, g2⟩ => by
    have h3 := ds_min hI hL hP g1 (by have := g2.ge; omega)
    exact g2.soon h3 (by omega)
  rcases g with ⟨g1, g2⟩ | ⟨g1, g2, g3⟩
  · refine Or.inl ⟨g1, fun y hy h => ?_⟩
    obtain ⟨y', h4, h5⟩ := h2 y hy h
    exact g2 y' (by omega) h5
  · refine Or.inr ⟨g1, ⟨_, h1, g2⟩, fun y h => ?_⟩
    rcases Nat.lt_or_ge L y with h9 | h9
    · omega
    · obtain ⟨y', h4, h5⟩ := h2 y h9 h
      have := g3 y' h5
      omega
theorem clr_bit : ∀ m, m < 256 → ∀ j, j < 8 → m.testBit j = true → nI m &&& ((1 <<< (nI j &&& 31)) ^^^ (-1)) = nI (m ^^^ 2 ^ j) := by decide +kernel
