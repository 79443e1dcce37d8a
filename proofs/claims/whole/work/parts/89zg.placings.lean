/-! TABLES: the call of the class (made by wip/whole/gen89zg.py) -/
theorem b_7_2 {X : Nat × (Nat → Int32)} {d : Nat} {p : Nat → Nat} {sg : Mg} {Q : am_R → Prop} {r w : Nat} {z1 : Option AV} {t : Nat} {e : Nat} {j : Nat} {z5 : Option AV} {z6 : Option AV} {z7 : Option AV} (u_t : t ≤ 511) (u_e : e ≤ 9) (u_j : j ≤ 9) (hr : sg 18 0 = nI r) (hw : j < e → sg 20 j = nI w) (u_r : r ≤ 8) (u_w : w ≤ 511)
    (o1 : (e ≤ j) → Q (gRv p sg 1))
    (o2 : (¬ (e ≤ j)) → (j = r) → gW X (d + 2) k_7 2 [some (vR 16), z1, some (vI (nI t)), some (vI (nI e)), some (vI (nI (j + 1))), z5, z6, z7] [] p sg Q)
    (o3 : (¬ (e ≤ j)) → (¬ (j = r)) → (bcI (nI w) ≤ 1) → gW X (d + 2) k_7 2 [some (vR 16), z1, some (vI (nI t)), some (vI (nI e)), some (vI (nI (j + 1))), z5, z6, z7] [] p sg Q)
    (o4 : (¬ (e ≤ j)) → (¬ (j = r)) → (¬ (bcI (nI w) ≤ 1)) → gW X (d + 2) k_7 22 [some (vR 16), z1, some (vI (nI t)), some (vI (nI e)), some (vI (nI j)), some (vI 0), some (vI 0), z7] [] p sg Q) :
    gW X (d + 2) k_7 2 [some (vR 16), z1, some (vI (nI t)), some (vI (nI e)), some (vI (nI j)), z5, z6, z7] [] p sg Q := by
  refine g_pure 2 (i' := 4) (lv' := [some (vR 16), z1, some (vI (nI t)), some (vI (nI e)), some (vI (nI j)), z5, z6, z7]) (st' := [vI (nI e), vI (nI j)]) rfl ?_
  refine g_if2 (i' := 57) (P := e ≤ j) rfl rfl (g_geN (show nI j = nI j from (rfl : nI j = nI j)) (show nI e = nI e from (rfl : nI e = nI e)) (by omega) (by omega)) (fun h1 => ?_) (fun h1 => ?_)
  · refine g_pure 1 (i' := 58) (lv' := [some (vR 16), z1, some (vI (nI t)), some (vI (nI e)), some (vI (nI j)), z5, z6, z7]) (st' := [vI 1]) rfl ?_
    refine g_iret rfl ?_
    exact o1 h1
  · refine g_pure 4 (i' := 9) (lv' := [some (vR 16), z1, some (vI (nI t)), some (vI (nI e)), some (vI (nI j)), z5, z6, z7]) (st' := [vI 0, vR 18, vI (nI j)]) rfl ?_
    refine g_ald rfl (g_A (a := 18) (kd := 1) (n := 9) rfl (by decide)) (by decide) (show 0 = nI 0 from (show (0 : Int32) = nI 0 from rfl)) (by decide) (show _ = nI r from hr) ?_
    refine g_if2 (i' := 55) (P := j = r) rfl rfl (g_eqN (show nI j = nI j from (rfl : nI j = nI j)) (show nI r = nI r from (rfl : nI r = nI r)) (by omega) (by omega)) (fun h2 => ?_) (fun h2 => ?_)
    · refine g_pure 2 (i' := 2) (lv' := [some (vR 16), z1, some (vI (nI t)), some (vI (nI e)), some (vI (nI j + 1)), z5, z6, z7]) (st' := []) rfl ?_
      refine gW_eq (lv' := [some (vR 16), z1, some (vI (nI t)), some (vI (nI e)), some (vI (nI (j + 1))), z5, z6, z7]) (st' := []) (by rw [(show (nI j + 1) = nI (j + 1) from ((g_add (rfl : nI j = nI j) (show (1 : Int32) = nI 1 from rfl))).trans (congrArg nI (by omega)))]) rfl rfl ?_
      exact o2 h1 h2
    · refine g_pure 3 (i' := 14) (lv' := [some (vR 16), z1, some (vI (nI t)), some (vI (nI e)), some (vI (nI j)), z5, z6, z7]) (st' := [vI (nI j), vR 20]) rfl ?_
      refine g_ald rfl (g_A (a := 20) (kd := 1) (n := 9) rfl (by decide)) (by decide) (show nI j = nI j from (rfl : nI j = nI j)) (by omega) (show _ = nI w from (hw (by omega))) ?_
      refine g_cS1 rfl (args := [vI (nI w)]) (rest := []) rfl rfl rfl (s_317 (d := d + 1) ) ?_
      refine g_pure 1 (i' := 17) (lv' := [some (vR 16), z1, some (vI (nI t)), some (vI (nI e)), some (vI (nI j)), z5, z6, z7]) (st' := [vI 1, vI (bcI (nI w))]) rfl ?_
      refine g_if2 (i' := 55) (P := bcI (nI w) ≤ 1) rfl rfl Iff.rfl (fun h3 => ?_) (fun h3 => ?_)
      · refine g_pure 2 (i' := 2) (lv' := [some (vR 16), z1, some (vI (nI t)), some (vI (nI e)), some (vI (nI j + 1)), z5, z6, z7]) (st' := []) rfl ?_
        refine gW_eq (lv' := [some (vR 16), z1, some (vI (nI t)), some (vI (nI e)), some (vI (nI (j + 1))), z5, z6, z7]) (st' := []) (by rw [(show (nI j + 1) = nI (j + 1) from ((g_add (rfl : nI j = nI j) (show (1 : Int32) = nI 1 from rfl))).trans (congrArg nI (by omega)))]) rfl rfl ?_
        exact o3 h1 h2 h3
      · refine g_pure 4 (i' := 22) (lv' := [some (vR 16), z1, some (vI (nI t)), some (vI (nI e)), some (vI (nI j)), some (vI 0), some (vI 0), z7]) (st' := []) rfl ?_
        exact o4 h1 h2 h3

theorem b_7_22 {X : Nat × (Nat → Int32)} {d : Nat} {p : Nat → Nat} {sg : Mg} {Q : am_R → Prop} {w : Nat} {z1 : Option AV} {t : Nat} {e : Nat} {j : Nat} {m : Nat} {b : Nat} {z7 : Option AV} (u_t : t ≤ 511) (u_e : e ≤ 9) (u_j : j ≤ 8) (u_b : b ≤ 9) (hw : sg 20 j = nI w) (u_w : w ≤ 511)
    (o1 : (e ≤ b) → Q (gRv p sg (nI m)))
    (o2 : (¬ (e ≤ b)) → gW X (d + 2) k_7 31 [some (vR 16), z1, some (vI (nI t)), some (vI (nI e)), some (vI (nI j)), some (vI (nI m)), some (vI (nI b)), z7] [vI (nI e), vI (nI b), vI (nI w)] p sg Q) :
    gW X (d + 2) k_7 22 [some (vR 16), z1, some (vI (nI t)), some (vI (nI e)), some (vI (nI j)), some (vI (nI m)), some (vI (nI b)), z7] [] p sg Q := by
  refine g_pure 2 (i' := 24) (lv' := [some (vR 16), z1, some (vI (nI t)), some (vI (nI e)), some (vI (nI j)), some (vI (nI m)), some (vI (nI b)), z7]) (st' := [vI (nI e), vI (nI b)]) rfl ?_
  refine g_if2 (i' := 53) (P := e ≤ b) rfl rfl (g_geN (show nI b = nI b from (rfl : nI b = nI b)) (show nI e = nI e from (rfl : nI e = nI e)) (by omega) (by omega)) (fun h1 => ?_) (fun h1 => ?_)
  · refine g_pure 1 (i' := 54) (lv' := [some (vR 16), z1, some (vI (nI t)), some (vI (nI e)), some (vI (nI j)), some (vI (nI m)), some (vI (nI b)), z7]) (st' := [vI (nI m)]) rfl ?_
    refine g_iret rfl ?_
    exact o1 h1
  · refine g_pure 3 (i' := 28) (lv' := [some (vR 16), z1, some (vI (nI t)), some (vI (nI e)), some (vI (nI j)), some (vI (nI m)), some (vI (nI b)), z7]) (st' := [vI (nI j), vR 20]) rfl ?_
    refine g_ald rfl (g_A (a := 20) (kd := 1) (n := 9) rfl (by decide)) (by decide) (show nI j = nI j from (rfl : nI j = nI j)) (by omega) (show _ = nI w from hw) ?_
    refine g_pure 2 (i' := 31) (lv' := [some (vR 16), z1, some (vI (nI t)), some (vI (nI e)), some (vI (nI j)), some (vI (nI m)), some (vI (nI b)), z7]) (st' := [vI (nI e), vI (nI b), vI (nI w)]) rfl ?_
    exact o2 h1

theorem b_2_0 {X : Nat × (Nat → Int32)} {d : Nat} {p : Nat → Nat} {sg : Mg} {Q : am_R → Prop} {e : Nat} (u_e : e ≤ 9) (q1 : 1 ≤ e)
    (o1 : gW X (d + 13) k_2 8 [some (vR 16), some (vI (nI e)), none, none, none, none] [vI (nI e), vR 16] p sg Q) :
    gW X (d + 13) k_2 0 [some (vR 16), some (vI (nI e)), none, none, none, none] [] p sg Q := by
  refine g_pure 2 (i' := 2) (lv' := [some (vR 16), some (vI (nI e)), none, none, none, none]) (st' := [vI 1, vI (nI e)]) rfl ?_
  refine g_if2 (i' := 14) (P := e < 1) rfl rfl (g_ltN (show nI e = nI e from (rfl : nI e = nI e)) (show 1 = nI 1 from (show (1 : Int32) = nI 1 from rfl)) (by omega) (by omega)) (fun h1 => absurd h1 (by omega)) (fun _ => ?_)
  refine g_pure 2 (i' := 5) (lv' := [some (vR 16), some (vI (nI e)), none, none, none, none]) (st' := [vI 9, vI (nI e)]) rfl ?_
  refine g_if2 (i' := 14) (P := 9 < e) rfl rfl (g_gtN (show nI e = nI e from (rfl : nI e = nI e)) (show 9 = nI 9 from (show (9 : Int32) = nI 9 from rfl)) (by omega) (by omega)) (fun h2 => absurd h2 (by omega)) (fun _ => ?_)
  refine g_pure 2 (i' := 8) (lv' := [some (vR 16), some (vI (nI e)), none, none, none, none]) (st' := [vI (nI e), vR 16]) rfl ?_
  exact o1

theorem b_2_42 {X : Nat × (Nat → Int32)} {d : Nat} {p : Nat → Nat} {sg : Mg} {Q : am_R → Prop} {r w : Nat} {e : Nat} {z2 : Option AV} {m : Nat} {a : Nat} {j : Nat} (u_e : e ≤ 9) (u_a : a ≤ 9) (u_j : j ≤ 9) (hr : sg 18 0 = nI r) (hw : j < e → sg 20 j = nI w) (u_r : r ≤ 8) (u_w : w ≤ 511)
    (o1 : (e ≤ j) → Q (gRv p sg (nI m)))
    (o2 : (¬ (e ≤ j)) → (j = r) → gW X (d + 13) k_2 42 [some (vR 16), some (vI (nI e)), z2, some (vI (nI m)), some (vI (nI a)), some (vI (nI (j + 1)))] [] p sg Q)
    (o3 : (¬ (e ≤ j)) → (¬ (j = r)) → (¬ bcI (nI w) = 1) → gW X (d + 13) k_2 42 [some (vR 16), some (vI (nI e)), z2, some (vI (nI m)), some (vI (nI a)), some (vI (nI (j + 1)))] [] p sg Q)
    (o4 : (¬ (e ≤ j)) → (¬ (j = r)) → (bcI (nI w) = 1) → gW X (d + 13) k_2 42 [some (vR 16), some (vI (nI e)), z2, some (vI (nI (m * (a + 1)))), some (vI (nI (a + 1))), some (vI (nI (j + 1)))] [] p sg Q) :
    gW X (d + 13) k_2 42 [some (vR 16), some (vI (nI e)), z2, some (vI (nI m)), some (vI (nI a)), some (vI (nI j))] [] p sg Q := by
  refine g_pure 2 (i' := 44) (lv' := [some (vR 16), some (vI (nI e)), z2, some (vI (nI m)), some (vI (nI a)), some (vI (nI j))]) (st' := [vI (nI e), vI (nI j)]) rfl ?_
  refine g_if2 (i' := 65) (P := e ≤ j) rfl rfl (g_geN (show nI j = nI j from (rfl : nI j = nI j)) (show nI e = nI e from (rfl : nI e = nI e)) (by omega) (by omega)) (fun h1 => ?_) (fun h1 => ?_)
  · refine g_pure 1 (i' := 66) (lv' := [some (vR 16), some (vI (nI e)), z2, some (vI (nI m)), some (vI (nI a)), some (vI (nI j))]) (st' := [vI (nI m)]) rfl ?_
    refine g_iret rfl ?_
    exact o1 h1
  · refine g_pure 4 (i' := 49) (lv' := [some (vR 16), some (vI (nI e)), z2, some (vI (nI m)), some (vI (nI a)), some (vI (nI j))]) (st' := [vI 0, vR 18, vI (nI j)]) rfl ?_
    refine g_ald rfl (g_A (a := 18) (kd := 1) (n := 9) rfl (by decide)) (by decide) (show 0 = nI 0 from (show (0 : Int32) = nI 0 from rfl)) (by decide) (show _ = nI r from hr) ?_
    refine g_if2 (i' := 63) (P := j = r) rfl rfl (g_eqN (show nI j = nI j from (rfl : nI j = nI j)) (show nI r = nI r from (rfl : nI r = nI r)) (by omega) (by omega)) (fun h2 => ?_) (fun h2 => ?_)
    · refine g_pure 2 (i' := 42) (lv' := [some (vR 16), some (vI (nI e)), z2, some (vI (nI m)), some (vI (nI a)), some (vI (nI j + 1))]) (st' := []) rfl ?_
      refine gW_eq (lv' := [some (vR 16), some (vI (nI e)), z2, some (vI (nI m)), some (vI (nI a)), some (vI (nI (j + 1)))]) (st' := []) (by rw [(show (nI j + 1) = nI (j + 1) from ((g_add (rfl : nI j = nI j) (show (1 : Int32) = nI 1 from rfl))).trans (congrArg nI (by omega)))]) rfl rfl ?_
      exact o2 h1 h2
    · refine g_pure 3 (i' := 54) (lv' := [some (vR 16), some (vI (nI e)), z2, some (vI (nI m)), some (vI (nI a)), some (vI (nI j))]) (st' := [vI (nI j), vR 20]) rfl ?_
      refine g_ald rfl (g_A (a := 20) (kd := 1) (n := 9) rfl (by decide)) (by decide) (show nI j = nI j from (rfl : nI j = nI j)) (by omega) (show _ = nI w from (hw (by omega))) ?_
      refine g_cS1 rfl (args := [vI (nI w)]) (rest := []) rfl rfl rfl (s_317 (d := d + 12) ) ?_
      refine g_pure 1 (i' := 57) (lv' := [some (vR 16), some (vI (nI e)), z2, some (vI (nI m)), some (vI (nI a)), some (vI (nI j))]) (st' := [vI 1, vI (bcI (nI w))]) rfl ?_
      refine g_if2 (i' := 63) (P := ¬ bcI (nI w) = 1) rfl rfl Iff.rfl (fun h3 => ?_) (fun h3 => ?_)
      · refine g_pure 2 (i' := 42) (lv' := [some (vR 16), some (vI (nI e)), z2, some (vI (nI m)), some (vI (nI a)), some (vI (nI j + 1))]) (st' := []) rfl ?_
        refine gW_eq (lv' := [some (vR 16), some (vI (nI e)), z2, some (vI (nI m)), some (vI (nI a)), some (vI (nI (j + 1)))]) (st' := []) (by rw [(show (nI j + 1) = nI (j + 1) from ((g_add (rfl : nI j = nI j) (show (1 : Int32) = nI 1 from rfl))).trans (congrArg nI (by omega)))]) rfl rfl ?_
        exact o3 h1 h2 h3
      · have h3 := Classical.not_not.mp h3
        refine g_pure 7 (i' := 42) (lv' := [some (vR 16), some (vI (nI e)), z2, some (vI (nI m * (nI a + 1))), some (vI (nI a + 1)), some (vI (nI j + 1))]) (st' := []) rfl ?_
        refine gW_eq (lv' := [some (vR 16), some (vI (nI e)), z2, some (vI (nI (m * (a + 1)))), some (vI (nI (a + 1))), some (vI (nI (j + 1)))]) (st' := []) (by rw [(show (nI m * (nI a + 1)) = nI (m * (a + 1)) from (g_mul (rfl : nI m = nI m) (g_add (rfl : nI a = nI a) (show (1 : Int32) = nI 1 from rfl)))), (show (nI a + 1) = nI (a + 1) from ((g_add (rfl : nI a = nI a) (show (1 : Int32) = nI 1 from rfl))).trans (congrArg nI (by omega))), (show (nI j + 1) = nI (j + 1) from ((g_add (rfl : nI j = nI j) (show (1 : Int32) = nI 1 from rfl))).trans (congrArg nI (by omega)))]) rfl rfl ?_
        exact o4 h1 h2 h3

theorem b_172_2 {X : Nat × (Nat → Int32)} {d : Nat} {p : Nat → Nat} {sg : Mg} {Q : am_R → Prop} {B : Nat} {S : Nat → Int32} (hI : Inv B S) (hL : cwL 250 sg S) (hD : cwD 200 sg S)
    (o1 : (sn S 9 ≤ 9) → gW X (d + 14) k_172 10 [some (vR 0)] [] p sg Q)
    (o2 : (¬ (sn S 9 ≤ 9)) → Q (gRv p sg (-3))) :
    gW X (d + 14) k_172 2 [some (vR 0)] [] p sg Q := by
  have b0 := hI.b0; have b1 := hI.b1; have b2 := hI.b2; have b3 := hI.b3; have b4 := hI.b4; have b5 := hI.b5; have b6 := hI.b6; have b7 := hI.b7; have b8 := hI.b8; have b9 := hI.b9; have b14 := hI.b14
  refine g_pure 3 (i' := 5) (lv' := [some (vR 0)]) (st' := [vR 202]) rfl ?_
  refine g_getI rfl (g_A (a := 202) (kd := 0) (n := 3) rfl (by decide)) (show _ = S 9 from hD.f5) ?_
  refine g_pure 1 (i' := 7) (lv' := [some (vR 0)]) (st' := [vI 9, vI (S 9)]) rfl ?_
  refine g_if2 (i' := 10) (P := sn S 9 ≤ 9) rfl rfl (g_leN (show S 9 = nI (sn S 9) from (hI.c9)) (show 9 = nI 9 from (show (9 : Int32) = nI 9 from rfl)) (by omega) (by omega)) (fun h1 => ?_) (fun h1 => ?_)
  · exact o1 h1
  · refine g_pure 2 (i' := 17) (lv' := [some (vR 0)]) (st' := [vI (-3)]) rfl ?_
    refine g_iret rfl ?_
    exact o2 h1

theorem popc_le : ∀ k, k < 512 → popc 9 k ≤ 9 := by decide +kernel
theorem bc_le1 {w : Nat} (h : w < 512) : bcI (nI w) ≤ 1 ↔ popc 9 w ≤ 1 := by
  have := popc_le w h
  rw [bcI_nI w h, show (1 : Int32) = nI 1 from rfl, nI_leI (by omega) (by omega)]
theorem bc_eq1 {w : Nat} (h : w < 512) : bcI (nI w) = 1 ↔ popc 9 w = 1 := by
  have := popc_le w h
  rw [bcI_nI w h, show (1 : Int32) = nI 1 from rfl, nI_eq (by omega) (by omega)]
theorem pow_up {e t : Nat} (h9 : e ≤ 9) (h : t < 2 ^ e) : t < 512 := Nat.lt_of_lt_of_le h (Nat.pow_le_pow_right (n := 2) (j := 9) (by decide) h9)
section
variable {X : Nat × (Nat → Int32)} {p : Nat → Nat} {sg : Mg} {g f : Nat → Nat} {D : Nat}
theorem bigB_t {j : Nat} (h : ¬ j = g 0) (h2 : 1 < popc 9 (pgB g f D j)) : bigB g f D j = true := by
  unfold bigB popB
  rw [decide_eq_false h, decide_eq_true h2]; rfl
theorem bigB_f {j : Nat} (h2 : ¬ 1 < popc 9 (pgB g f D j)) : bigB g f D j = false := by
  unfold bigB popB
  rw [decide_eq_false h2, Bool.and_false]
theorem sinB_t {j : Nat} (h : ¬ j = g 0) (h2 : popc 9 (pgB g f D j) = 1) : sinB g f D j = true := by
  unfold sinB popB
  rw [decide_eq_false h, decide_eq_true h2]; rfl
theorem sinB_f {j : Nat} (h2 : ¬ popc 9 (pgB g f D j) = 1) : sinB g f D j = false := by
  unfold sinB popB
  rw [decide_eq_false h2, Bool.and_false]
theorem w_7 (hg : gOK g f D) (h0 : 1 ≤ D) (h9 : D ≤ 9) (hr : sg 18 0 = nI (g 0)) (hP : ∀ l, l < 9 → sg 20 l = nI (pgB g f D l)) : ∀ k j t, j + k = D → t < 2 ^ D → ∀ (d : Nat) (z1 z5 z6 z7 : Option AV), gW X (d + k + 3) k_7 2 [some (vR 16), z1, some (vI (nI t)), some (vI (nI D)), some (vI (nI j)),  z5, z6, z7] [] p sg (fun r => r = gRv p sg (nI (cL D (pgB g f D) ((List.range' j k).filter (bigB g f D)) t)))
  | 0, j, t, hj, ht, d, z1, z5, z6, z7 => by
    have hr0 := (hg 0 h0).1
    have t9 := pow_up h9 ht
    exact b_7_2 (d := d + 1) (w := 0) (by omega) h9 (by omega) hr (fun h => by omega) (by omega) (by omega) (fun _ => rfl) (fun h => by omega) (fun h => by omega) (fun h => by omega)
  | k + 1, j, t, hj, ht, d, z1, z5, z6, z7 => by
    have hr0 := (hg 0 h0).1
    have t9 := pow_up h9 ht
    have hw9 := pgB_up hg h9 D (Nat.le_refl _) j
    have nx : bigB g f D j = false → ∀ z5 z6 z7, gW X (d + (k + 1) + 3) k_7 2 [some (vR 16), z1, some (vI (nI t)), some (vI (nI D)), some (vI (nI (j + 1))), z5, z6, z7] [] p sg (fun r => r = gRv p sg (nI (cL D (pgB g f D) ((List.range' j (k + 1)).filter (bigB g f D)) t))) := fun hb z5 z6 z7 => by
      rw [List.range'_succ, List.filter_cons_of_neg (by rw [hb]; decide)]
      have := w_7 hg h0 h9 hr hP k (j + 1) t (by omega) ht (d + 1) z1 z5 z6 z7
      rw [show d + 1 + k + 3 = d + (k + 1) + 3 by omega] at this
      exact this
    refine b_7_2 (d := d + k + 2) (w := pgB g f D j) (by omega) h9 (by omega) hr (fun _ => hP j (by omega)) (by omega) (by omega) (fun h => by omega) (fun _ h => nx (by simp [bigB, h]) _ _ _) (fun _ _ h => nx ?_ _ _ _) (fun _ hne h => ?_)
    · rw [bc_le1 hw9] at h
      exact bigB_f (by omega)
    · rw [bc_le1 hw9] at h
      have hb : bigB g f D j = true := bigB_t hne (by omega)
      rw [List.range'_succ, List.filter_cons_of_pos hb]
      have key := g_upI (P := fun b => ∀ z7, gW X (d + k + 4) k_7 22 [some (vR 16), z1, some (vI (nI t)), some (vI (nI D)), some (vI (nI j)),  some (vI (nI (sm1 (fun v => if trN (pgB g f D j) v D &&& t = 0 then cL D (pgB g f D) ((List.range' (j + 1) k).filter (bigB g f D)) (t ||| trN (pgB g f D j) v D) else 0) b))), some (vI (nI b)), z7] [] p sg (fun r => r = gRv p sg (nI (cL D (pgB g f D) (j :: (List.range' (j + 1) k).filter (bigB g f D)) t)))) (I := fun _ => True) (n := D) (a := 0) (by omega) trivial ?_ ?_
      · exact key _
      · intro b _ hb _ ih z7
        have ih := ih trivial
        have hPj := pgB_lt hg (Nat.le_refl D) j
        have ts := pow_up h9 (tr_lt (s := pgB g f D j) (b := b) (e := D))
        refine b_7_22 (d := d + k + 2) (w := pgB g f D j) (by omega) h9 (by omega) (by omega) (hP j (by omega)) (by omega) (fun h => by omega) (fun _ => ?_)
        refine g_cS1 rfl (args := [vI (nI (pgB g f D j)), vI (nI b), vI (nI D)]) (rest := []) rfl rfl rfl (s_6 (d := d + k + 2) h9 hPj (by omega)) ?_
        refine g_pure 5 (i' := 37) (lv' := [some (vR 16), z1, some (vI (nI t)), some (vI (nI D)), some (vI (nI j)),  some (vI (nI (sm1 (fun v => if trN (pgB g f D j) v D &&& t = 0 then cL D (pgB g f D) ((List.range' (j + 1) k).filter (bigB g f D)) (t ||| trN (pgB g f D j) v D) else 0) b))), some (vI (nI b)), some (vI (nI (trN (pgB g f D j) b D)))]) (st' := [vI (nI (trN (pgB g f D j) b D) &&& nI t), vI (nI (sm1 (fun v => if trN (pgB g f D j) v D &&& t = 0 then cL D (pgB g f D) ((List.range' (j + 1) k).filter (bigB g f D)) (t ||| trN (pgB g f D j) v D) else 0) b))]) rfl ?_
        have hz : (nI (trN (pgB g f D j) b D) &&& nI t = 0) ↔ (trN (pgB g f D j) b D &&& t = 0) := by
          have := Nat.and_lt_two_pow (n := 9) (trN (pgB g f D j) b D) t9
          rw [nI_and, show (0 : Int32) = nI 0 from rfl, nI_eq (by omega) (by omega)]
        refine g_if1 (i' := 48) (P := ¬ trN (pgB g f D j) b D &&& t = 0) rfl rfl (not_congr hz) (fun hc => ?_) (fun hc => ?_)
        · refine g_pure 5 (i' := 22) (lv' := [some (vR 16), z1, some (vI (nI t)), some (vI (nI D)), some (vI (nI j)),  some (vI (nI (sm1 (fun v => if trN (pgB g f D j) v D &&& t = 0 then cL D (pgB g f D) ((List.range' (j + 1) k).filter (bigB g f D)) (t ||| trN (pgB g f D j) v D) else 0) b) + 0)), some (vI (nI b + 1)), some (vI (nI (trN (pgB g f D j) b D)))]) (st' := []) rfl ?_
          refine gW_eq (lv' := [some (vR 16), z1, some (vI (nI t)), some (vI (nI D)), some (vI (nI j)),  some (vI (nI (sm1 (fun v => if trN (pgB g f D j) v D &&& t = 0 then cL D (pgB g f D) ((List.range' (j + 1) k).filter (bigB g f D)) (t ||| trN (pgB g f D j) v D) else 0) (b + 1)))), some (vI (nI (b + 1))), some (vI (nI (trN (pgB g f D j) b D)))]) ?_ rfl rfl (ih _)
          rw [← nI_add b 1]
          show _ = [some (vR 16), z1, some (vI (nI t)), some (vI (nI D)), some (vI (nI j)),  some (vI (nI (sm1 _ b + (if trN (pgB g f D j) b D &&& t = 0 then _ else 0)))), _, _]
          rw [if_neg hc, Nat.add_zero, Int32.add_zero]
          rfl
        · have hc := Classical.not_not.mp hc
          refine g_pure 8 (i' := 46) (lv' := [some (vR 16), z1, some (vI (nI t)), some (vI (nI D)), some (vI (nI j)),  some (vI (nI (sm1 (fun v => if trN (pgB g f D j) v D &&& t = 0 then cL D (pgB g f D) ((List.range' (j + 1) k).filter (bigB g f D)) (t ||| trN (pgB g f D j) v D) else 0) b))), some (vI (nI b)), some (vI (nI (trN (pgB g f D j) b D)))]) (st' := [vI (nI D), vI (nI t ||| nI (trN (pgB g f D j) b D)), vI (nI j + 1), vR 16, vI (nI (sm1 (fun v => if trN (pgB g f D j) v D &&& t = 0 then cL D (pgB g f D) ((List.range' (j + 1) k).filter (bigB g f D)) (t ||| trN (pgB g f D j) v D) else 0) b))]) rfl ?_
          rw [nI_or, show (1 : Int32) = nI 1 from rfl, nI_add j 1]
          have hrec : gF X (d + k + 4) 7 [vR 16, vI (nI (j + 1)), vI (nI (t ||| trN (pgB g f D j) b D)), vI (nI D)] p sg (fun r => r = gRv p sg (nI (cL D (pgB g f D) ((List.range' (j + 1) k).filter (bigB g f D)) (t ||| trN (pgB g f D j) b D)))) := by
            refine g_in (cd := k_7) (nL := 8) (rc := 1) rfl (g_A (a := 16) (kd := 0) (n := 0) rfl (by decide)) (g_c1 rfl) ?_
            refine g_pure 2 (i' := 2) (lv' := [some (vR 16), some (vI (nI (j + 1))), some (vI (nI (t ||| trN (pgB g f D j) b D))), some (vI (nI D)), some (vI (nI (j + 1))), none, none, none]) (st' := []) rfl ?_
            exact w_7 hg h0 h9 hr hP k (j + 1) _ (by omega) (Nat.or_lt_two_pow ht tr_lt) d _ _ _ _
          refine g_cV1 rfl (args := [vR 16, vI (nI (j + 1)), vI (nI (t ||| trN (pgB g f D j) b D)), vI (nI D)]) (rest := [vI (nI (sm1 (fun v => if trN (pgB g f D j) v D &&& t = 0 then cL D (pgB g f D) ((List.range' (j + 1) k).filter (bigB g f D)) (t ||| trN (pgB g f D j) v D) else 0) b))]) rfl rfl rfl hrec ?_
          refine g_pure 5 (i' := 22) (lv' := [some (vR 16), z1, some (vI (nI t)), some (vI (nI D)), some (vI (nI j)),  some (vI (nI (sm1 (fun v => if trN (pgB g f D j) v D &&& t = 0 then cL D (pgB g f D) ((List.range' (j + 1) k).filter (bigB g f D)) (t ||| trN (pgB g f D j) v D) else 0) b) + nI (cL D (pgB g f D) ((List.range' (j + 1) k).filter (bigB g f D)) (t ||| trN (pgB g f D j) b D)))), some (vI (nI b + 1)), some (vI (nI (trN (pgB g f D j) b D)))]) (st' := []) rfl ?_
          refine gW_eq (lv' := [some (vR 16), z1, some (vI (nI t)), some (vI (nI D)), some (vI (nI j)),  some (vI (nI (sm1 (fun v => if trN (pgB g f D j) v D &&& t = 0 then cL D (pgB g f D) ((List.range' (j + 1) k).filter (bigB g f D)) (t ||| trN (pgB g f D j) v D) else 0) (b + 1)))), some (vI (nI (b + 1))), some (vI (nI (trN (pgB g f D j) b D)))]) ?_ rfl rfl (ih _)
          rw [nI_add, ← nI_add b 1]
          show _ = [some (vR 16), z1, some (vI (nI t)), some (vI (nI D)), some (vI (nI j)),  some (vI (nI (sm1 _ b + (if trN (pgB g f D j) b D &&& t = 0 then _ else 0)))), _, _]
          rw [if_pos hc]
          rfl
      · intro _ z7
        exact b_7_22 (d := d + k + 2) (w := pgB g f D j) (by omega) h9 (by omega) (by omega) (hP j (by omega)) (by omega) (fun _ => rfl) (fun h => by omega)
theorem s_7 (hg : gOK g f D) (h0 : 1 ≤ D) (h9 : D ≤ 9) (hr : sg 18 0 = nI (g 0)) (hP : ∀ l, l < 9 → sg 20 l = nI (pgB g f D l)) {t : Nat} (ht : t < 2 ^ D) {d : Nat} : gF X (d + 13) 7 [vR 16, vI (nI 0), vI (nI t), vI (nI D)] p sg (fun r => r = gRv p sg (nI (cL D (pgB g f D) ((List.range D).filter (bigB g f D)) t))) := by
  refine g_in (cd := k_7) (nL := 8) (rc := 1) rfl (g_A (a := 16) (kd := 0) (n := 0) rfl (by decide)) (g_c1 rfl) ?_
  refine g_pure 2 (i' := 2) (lv' := [some (vR 16), some (vI (nI 0)), some (vI (nI t)), some (vI (nI D)), some (vI (nI 0)), none, none, none]) (st' := []) rfl ?_
  have := w_7 (X := X) (p := p) hg h0 h9 hr hP D 0 t (by omega) ht (d + 9 - D) (some (vI (nI 0))) none none none
  rw [show d + 9 - D + D + 3 = d + 12 by omega, ← List.range_eq_range'] at this
  exact this
end
