/-! SOONEST, CONE (made by wip/whole/gen82.py) -/
theorem b_83_0 {X : Nat × (Nat → Int32)} {d : Nat} {p : Nat → Nat} {sg : Mg} {Q : am_R → Prop} {B : Nat} {S : Nat → Int32} (hI : Inv B S) (hL : cwL 250 sg S) (hD : cwD 200 sg S) (hW : LW S sg) (hB : bOK S sg) {k : Nat} {l : Nat} (u_k : k ≤ 7) (u_l : l ≤ 200400) (q1 : k < sn S 1) (q2 : l ≤ sn S 8 + 400)
    (o1 : ∀ s4 : Mg, (SF sg s4 ∧ bOK S s4 ∧ ∃ F, soM s4 F ∧ spP S k (hmN S k) (stN S k) l F) → Q (gR0 p s4)) :
    gW X (d + 6) k_83 0 [some (vR 8), some (vI (nI k)), some (vI (nI l))] [] p sg Q := by
  have b0 := hI.b0; have b1 := hI.b1; have b2 := hI.b2; have b3 := hI.b3; have b4 := hI.b4; have b5 := hI.b5; have b6 := hI.b6; have b7 := hI.b7; have b8 := hI.b8; have b9 := hI.b9; have b14 := hI.b14
  refine g_pure 4 (i' := 4) (lv' := [some (vR 8), some (vI (nI k)), some (vI (nI l))]) (st' := [vI (nI k), vR 8, vI (nI k), vR 8]) rfl ?_
  refine g_cV1 rfl (args := [vR 8, vI (nI k)]) (rest := [vI (nI k), vR 8]) rfl rfl rfl (s_84 (d := d + 4) hI hL hD (by omega)) ?_
  have t1 := (hm_ok hI (k := k) (by omega)).1
  refine g_pure 2 (i' := 7) (lv' := [some (vR 8), some (vI (nI k)), some (vI (nI l))]) (st' := [vI (nI k), vR 8, vI (nI (hmN S k)), vI (nI k), vR 8]) rfl ?_
  refine g_cV1 rfl (args := [vR 8, vI (nI k)]) (rest := [vI (nI (hmN S k)), vI (nI k), vR 8]) rfl rfl rfl (s_86 (d := d + 4) hI hL hD (by omega)) ?_
  have t2 := (hm_ok hI (k := k) (by omega)).2.1
  have t3 := (hm_ok hI (k := k) (by omega)).2.2.1
  refine g_pure 1 (i' := 9) (lv' := [some (vR 8), some (vI (nI k)), some (vI (nI l))]) (st' := [vI (nI l), vI (nI (stN S k)), vI (nI (hmN S k)), vI (nI k), vR 8]) rfl ?_
  refine g_cV0E rfl (args := [vR 8, vI (nI k), vI (nI (hmN S k)), vI (nI (stN S k)), vI (nI l)]) (rest := []) rfl rfl rfl (s_87 (d := d) hI hL hD hW hB (by omega) (by omega) (by omega) (by omega) (by omega)) (fun s4 es4 => ?_)
  have hLs4 : cwL 250 s4 S := es4.1.L hL
  have hDs4 : cwD 200 s4 S := es4.1.D hD
  have hWs4 : LW S s4 := es4.1.W hW
  refine g_vret rfl ?_
  exact o1 s4 es4

theorem s_83 {X : Nat × (Nat → Int32)} {d : Nat} {p : Nat → Nat} {sg : Mg} {B : Nat} {S : Nat → Int32} (hI : Inv B S) (hL : cwL 250 sg S) (hD : cwD 200 sg S) (hW : LW S sg) (hB : bOK S sg) {k l : Nat} (hk : k < sn S 1) (hl : l ≤ sn S 8 + 400) : gF X (d + 7) 83 [vR 8, vI (nI k), vI (nI l)] p sg (fun r => ∃ s, (SF sg s ∧ bOK S s ∧ ∃ F, soM s F ∧ spP S k (hmN S k) (stN S k) l F) ∧ r = gR0 p s) := by
  have b1 := hI.b1; have b8 := hI.b8
  exact g_in (cd := k_83) (nL := 3) (rc := 10) rfl (g_A (a := 8) (kd := 0) (n := 9) rfl (by decide)) (g_c1 rfl) (b_83_0 hI hL hD hW hB (by omega) (by omega) hk hl (fun s h => ⟨s, h, rfl⟩))

theorem b_273_0 {X : Nat × (Nat → Int32)} {d : Nat} {p : Nat → Nat} {sg : Mg} {Q : am_R → Prop} {B : Nat} {S : Nat → Int32} (hI : Inv B S) (hS : sg 801 = S) (hA : InvA S) {k : Nat} (u_k : k ≤ 7) (q1 : k < sn S 1)
    (o1 : ∀ s4 : Mg, (SR sg s4 ∧ ∃ C, cnM 809 1236 s4 C ∧ cnP S k (hmN S k) (sn S 8 + (stN S k - sn S 8)) C) → Q (gR0 p s4)) :
    gW X (d + 9) k_273 0 [some (vR 800), some (vI (nI k))] [] p sg Q := by
  have b0 := hI.b0; have b1 := hI.b1; have b2 := hI.b2; have b3 := hI.b3; have b4 := hI.b4; have b5 := hI.b5; have b6 := hI.b6; have b7 := hI.b7; have b8 := hI.b8; have b9 := hI.b9; have b14 := hI.b14
  refine g_pure 4 (i' := 4) (lv' := [some (vR 800), some (vI (nI k))]) (st' := [vI (nI k), vR 800, vI (nI k), vR 800]) rfl ?_
  refine g_cV1 rfl (args := [vR 800, vI (nI k)]) (rest := [vI (nI k), vR 800]) rfl rfl rfl (s_274 (d := d + 7) hI hS (by omega)) ?_
  have t1 := (hm_ok hI (k := k) (by omega)).1
  refine g_pure 2 (i' := 7) (lv' := [some (vR 800), some (vI (nI k))]) (st' := [vI (nI k), vR 800, vI (nI (hmN S k)), vI (nI k), vR 800]) rfl ?_
  refine g_cV1 rfl (args := [vR 800, vI (nI k)]) (rest := [vI (nI (hmN S k)), vI (nI k), vR 800]) rfl rfl rfl (s_275 (d := d + 7) hI hS (by omega)) ?_
  have t2 := (hm_ok hI (k := k) (by omega)).2.1
  have t3 := (hm_ok hI (k := k) (by omega)).2.2.1
  refine g_cV0E rfl (args := [vR 800, vI (nI k), vI (nI (hmN S k)), vI (nI (stN S k - sn S 8))]) (rest := []) rfl rfl rfl (s_276 (d := d) hI hS hA (by omega) (by omega) (by omega)) (fun s4 es4 => ?_)
  have hSs4 : s4 801 = S := es4.1.S hS
  refine g_vret rfl ?_
  exact o1 s4 es4

theorem s_273 {X : Nat × (Nat → Int32)} {d : Nat} {p : Nat → Nat} {sg : Mg} {B : Nat} {S : Nat → Int32} (hI : Inv B S) (hS : sg 801 = S) (hA : InvA S) {k : Nat} (hk : k < sn S 1) : gF X (d + 10) 273 [vR 800, vI (nI k)] p sg (fun r => ∃ s, (SR sg s ∧ ∃ C, cnM 809 1236 s C ∧ cnP S k (hmN S k) (stN S k) C) ∧ r = gR0 p s) := by
  have b1 := hI.b1
  refine g_in (cd := k_273) (nL := 2) (rc := 13) rfl (g_A (a := 800) (kd := 0) (n := 12) rfl (by decide)) (g_c1 rfl) (b_273_0 hI hS hA (by omega) hk (fun s h => ⟨s, ?_, rfl⟩))
  have := (hm_ok hI hk).2.1
  rw [show sn S 8 + (stN S k - sn S 8) = stN S k by omega] at h
  exact h

theorem b_81_0 {X : Nat × (Nat → Int32)} {d : Nat} {p : Nat → Nat} {sg : Mg} {Q : am_R → Prop} {B : Nat} {S : Nat → Int32} (hI : Inv B S) (hL : cwL 250 sg S) (hD : cwD 200 sg S) (hW : LW S sg) {k : Nat} {v : Nat} {z : Int32} (u_k : k ≤ 7) (u_v : v ≤ 5) (q1 : k < sn S 1)
    (o1 : ∀ s1 : Mg, ((∀ c, c ≠ 8 → c ≠ 9 → s1 c = sg c) ∧ bOK S s1) → ∀ s2 : Mg, (SF s1 s2 ∧ bOK S s2 ∧ ∃ F, soM s2 F ∧ spP S k (hmN S k) (stN S k) (200 + sn S 8) F) → gW X (d + 7) k_81 12 [some (vR 8), some (vI (nI k)), some (vI (nI v)), some (vI z), some (vI (nI (200 + sn S 8))), none] [] p s2 Q) :
    gW X (d + 7) k_81 0 [some (vR 8), some (vI (nI k)), some (vI (nI v)), some (vI z), none, none] [] p sg Q := by
  have b0 := hI.b0; have b1 := hI.b1; have b2 := hI.b2; have b3 := hI.b3; have b4 := hI.b4; have b5 := hI.b5; have b6 := hI.b6; have b7 := hI.b7; have b8 := hI.b8; have b9 := hI.b9; have b14 := hI.b14
  refine g_pure 1 (i' := 1) (lv' := [some (vR 8), some (vI (nI k)), some (vI (nI v)), some (vI z), none, none]) (st' := [vR 8]) rfl ?_
  refine g_cV0E rfl (args := [vR 8]) (rest := []) rfl rfl rfl (s_82 (d := d + 5) hW) (fun s1 es1 => ?_)
  have hLs1 : cwL 250 s1 S := (hL).eqc (fun c h1 h2 => es1.1 c (by omega) (by omega))
  have hDs1 : cwD 200 s1 S := (hD).eqc (fun c h1 => es1.1 c (by omega) (by omega))
  have hWs1 : LW S s1 := (hW).eqc (fun c h1 h2 => es1.1 c (by omega) (by omega))
  refine g_pure 2 (i' := 4) (lv' := [some (vR 8), some (vI (nI k)), some (vI (nI v)), some (vI z), none, none]) (st' := [vR 250]) rfl ?_
  refine g_getI rfl (g_A (a := 250) (kd := 0) (n := 6) rfl (by decide)) (show _ = S 8 from hLs1.f12) ?_
  refine g_pure 6 (i' := 11) (lv' := [some (vR 8), some (vI (nI k)), some (vI (nI v)), some (vI z), some (vI (S 8 + 200)), none]) (st' := [vI (S 8 + 200), vI (nI k), vR 8]) rfl ?_
  refine gW_eq (lv' := [some (vR 8), some (vI (nI k)), some (vI (nI v)), some (vI z), some (vI (nI (200 + sn S 8))), none]) (st' := [vI (nI (200 + sn S 8)), vI (nI k), vR 8]) (by rw [(show (S 8 + 200) = nI (200 + sn S 8) from ((g_add (hI.c8) (show (200 : Int32) = nI 200 from rfl))).trans (congrArg nI (by omega)))]) (by rw [(show (S 8 + 200) = nI (200 + sn S 8) from ((g_add (hI.c8) (show (200 : Int32) = nI 200 from rfl))).trans (congrArg nI (by omega)))]) rfl ?_
  refine g_cV0E rfl (args := [vR 8, vI (nI k), vI (nI (200 + sn S 8))]) (rest := []) rfl rfl rfl (s_83 (d := d) hI hLs1 hDs1 hWs1 es1.2 (by omega) (by omega)) (fun s2 es2 => ?_)
  have hLs2 : cwL 250 s2 S := es2.1.L hLs1
  have hDs2 : cwD 200 s2 S := es2.1.D hDs1
  have hWs2 : LW S s2 := es2.1.W hWs1
  exact o1 s1 es1 s2 es2

theorem b_81_x {X : Nat × (Nat → Int32)} {d : Nat} {p : Nat → Nat} {sg : Mg} {Q : am_R → Prop} {B : Nat} {S : Nat → Int32} (hI : Inv B S) (hL : cwL 250 sg S) (hD : cwD 200 sg S) {k : Nat} {v : Nat} {z3 : Option AV} {l : Nat} {z5 : Option AV} (u_k : k ≤ 7) (u_v : v ≤ 5) (u_l : l ≤ 200400) (hx : sg 10 v = 2000000000)
    (o1 : Q (gRv p sg (-1))) :
    gW X (d + 3) k_81 12 [some (vR 8), some (vI (nI k)), some (vI (nI v)), z3, some (vI (nI l)), z5] [] p sg Q := by
  have b0 := hI.b0; have b1 := hI.b1; have b2 := hI.b2; have b3 := hI.b3; have b4 := hI.b4; have b5 := hI.b5; have b6 := hI.b6; have b7 := hI.b7; have b8 := hI.b8; have b9 := hI.b9; have b14 := hI.b14
  refine g_pure 3 (i' := 15) (lv' := [some (vR 8), some (vI (nI k)), some (vI (nI v)), z3, some (vI (nI l)), z5]) (st' := [vI (nI v), vR 10]) rfl ?_
  refine g_ald rfl (g_A (a := 10) (kd := 1) (n := 6) rfl (by decide)) (by decide) (show nI v = nI v from (rfl : nI v = nI v)) (by omega) (show _ = 2000000000 from hx) ?_
  refine g_pure 1 (i' := 17) (lv' := [some (vR 8), some (vI (nI k)), some (vI (nI v)), z3, some (vI (nI l)), z5]) (st' := [vI 2000000000, vI 2000000000]) rfl ?_
  refine g_if2 (i' := 20) (P := ¬ 2000000000 = 2000000000) rfl rfl (g_neN (show 2000000000 = nI 2000000000 from (show (2000000000 : Int32) = nI 2000000000 from rfl)) (show 2000000000 = nI 2000000000 from (show (2000000000 : Int32) = nI 2000000000 from rfl)) (by omega) (by omega)) (fun h1 => absurd h1 (by omega)) (fun _ => ?_)
  refine g_pure 1 (i' := 19) (lv' := [some (vR 8), some (vI (nI k)), some (vI (nI v)), z3, some (vI (nI l)), z5]) (st' := [vI (-1)]) rfl ?_
  refine g_iret rfl ?_
  exact o1

theorem b_81_n {X : Nat × (Nat → Int32)} {d : Nat} {p : Nat → Nat} {sg : Mg} {Q : am_R → Prop} {B : Nat} {S : Nat → Int32} (hI : Inv B S) (hL : cwL 250 sg S) (hD : cwD 200 sg S) {x : Nat} {k : Nat} {v : Nat} {l : Nat} {z5 : Option AV} (u_k : k ≤ 7) (u_v : v ≤ 5) (u_l : l ≤ 200400) (q1 : x ≤ 200400) (hx : sg 10 v = nI x)
    (o1 : (x ≤ l) → Q (gRv p sg (nI x)))
    (o2 : (¬ (x ≤ l)) → Q (gRv p sg (-1))) :
    gW X (d + 3) k_81 12 [some (vR 8), some (vI (nI k)), some (vI (nI v)), some (vI (-1)), some (vI (nI l)), z5] [] p sg Q := by
  have b0 := hI.b0; have b1 := hI.b1; have b2 := hI.b2; have b3 := hI.b3; have b4 := hI.b4; have b5 := hI.b5; have b6 := hI.b6; have b7 := hI.b7; have b8 := hI.b8; have b9 := hI.b9; have b14 := hI.b14
  refine g_pure 3 (i' := 15) (lv' := [some (vR 8), some (vI (nI k)), some (vI (nI v)), some (vI (-1)), some (vI (nI l)), z5]) (st' := [vI (nI v), vR 10]) rfl ?_
  refine g_ald rfl (g_A (a := 10) (kd := 1) (n := 6) rfl (by decide)) (by decide) (show nI v = nI v from (rfl : nI v = nI v)) (by omega) (show _ = nI x from hx) ?_
  refine g_pure 1 (i' := 17) (lv' := [some (vR 8), some (vI (nI k)), some (vI (nI v)), some (vI (-1)), some (vI (nI l)), z5]) (st' := [vI 2000000000, vI (nI x)]) rfl ?_
  refine g_if2 (i' := 20) (P := ¬ x = 2000000000) rfl rfl (g_neN (show nI x = nI x from (rfl : nI x = nI x)) (show 2000000000 = nI 2000000000 from (show (2000000000 : Int32) = nI 2000000000 from rfl)) (by omega) (by omega)) (fun _ => ?_) (fun h1 => absurd (by omega) h1)
  refine g_pure 2 (i' := 22) (lv' := [some (vR 8), some (vI (nI k)), some (vI (nI v)), some (vI (-1)), some (vI (nI l)), z5]) (st' := [vI (-1), vI (-1)]) rfl ?_
  refine g_if2 (i' := 28) (P := ¬ ((-1) : Int32) = (-1)) rfl rfl Iff.rfl (fun h2 => absurd h2 (by decide)) (fun _ => ?_)
  refine g_pure 3 (i' := 26) (lv' := [some (vR 8), some (vI (nI k)), some (vI (nI v)), some (vI (-1)), some (vI (nI l)), z5]) (st' := [vI (nI v), vR 10]) rfl ?_
  refine g_ald rfl (g_A (a := 10) (kd := 1) (n := 6) rfl (by decide)) (by decide) (show nI v = nI v from (rfl : nI v = nI v)) (by omega) (show _ = nI x from hx) ?_
  refine g_pure 4 (i' := 40) (lv' := [some (vR 8), some (vI (nI k)), some (vI (nI v)), some (vI (-1)), some (vI (nI l)), some (vI (nI x))]) (st' := [vI (nI l), vI (nI x)]) rfl ?_
  refine g_if2 (i' := 43) (P := x ≤ l) rfl rfl (g_leN (show nI x = nI x from (rfl : nI x = nI x)) (show nI l = nI l from (rfl : nI l = nI l)) (by omega) (by omega)) (fun h3 => ?_) (fun h3 => ?_)
  · refine g_pure 1 (i' := 44) (lv' := [some (vR 8), some (vI (nI k)), some (vI (nI v)), some (vI (-1)), some (vI (nI l)), some (vI (nI x))]) (st' := [vI (nI x)]) rfl ?_
    refine g_iret rfl ?_
    exact o1 h3
  · refine g_pure 2 (i' := 44) (lv' := [some (vR 8), some (vI (nI k)), some (vI (nI v)), some (vI (-1)), some (vI (nI l)), some (vI (nI x))]) (st' := [vI (-1)]) rfl ?_
    refine g_iret rfl ?_
    exact o2 h3

theorem b_81_e {X : Nat × (Nat → Int32)} {d : Nat} {p : Nat → Nat} {sg : Mg} {Q : am_R → Prop} {B : Nat} {S : Nat → Int32} (hI : Inv B S) (hL : cwL 250 sg S) (hD : cwD 200 sg S) {x : Nat} {k : Nat} {v : Nat} {e : Nat} {l : Nat} {z5 : Option AV} (u_k : k ≤ 7) (u_v : v ≤ 5) (u_e : e ≤ 15) (u_l : l ≤ 200400) (q1 : x ≤ 200400) (q2 : v < sn S 0) (q3 : e < sn S 9) (hx : sg 10 v = nI x)
    (o1 : (nI (x + ((pgf S v e) + sn S 9 - (x % sn S 9)) % sn S 9) ≤ nI l) → Q (gRv p sg (nI (x + ((pgf S v e) + sn S 9 - (x % sn S 9)) % sn S 9))))
    (o2 : (¬ (nI (x + ((pgf S v e) + sn S 9 - (x % sn S 9)) % sn S 9) ≤ nI l)) → Q (gRv p sg (-1))) :
    gW X (d + 3) k_81 12 [some (vR 8), some (vI (nI k)), some (vI (nI v)), some (vI (nI e)), some (vI (nI l)), z5] [] p sg Q := by
  have b0 := hI.b0; have b1 := hI.b1; have b2 := hI.b2; have b3 := hI.b3; have b4 := hI.b4; have b5 := hI.b5; have b6 := hI.b6; have b7 := hI.b7; have b8 := hI.b8; have b9 := hI.b9; have b14 := hI.b14
  refine g_pure 3 (i' := 15) (lv' := [some (vR 8), some (vI (nI k)), some (vI (nI v)), some (vI (nI e)), some (vI (nI l)), z5]) (st' := [vI (nI v), vR 10]) rfl ?_
  refine g_ald rfl (g_A (a := 10) (kd := 1) (n := 6) rfl (by decide)) (by decide) (show nI v = nI v from (rfl : nI v = nI v)) (by omega) (show _ = nI x from hx) ?_
  refine g_pure 1 (i' := 17) (lv' := [some (vR 8), some (vI (nI k)), some (vI (nI v)), some (vI (nI e)), some (vI (nI l)), z5]) (st' := [vI 2000000000, vI (nI x)]) rfl ?_
  refine g_if2 (i' := 20) (P := ¬ x = 2000000000) rfl rfl (g_neN (show nI x = nI x from (rfl : nI x = nI x)) (show 2000000000 = nI 2000000000 from (show (2000000000 : Int32) = nI 2000000000 from rfl)) (by omega) (by omega)) (fun _ => ?_) (fun h1 => absurd (by omega) h1)
  refine g_pure 2 (i' := 22) (lv' := [some (vR 8), some (vI (nI k)), some (vI (nI v)), some (vI (nI e)), some (vI (nI l)), z5]) (st' := [vI (-1), vI (nI e)]) rfl ?_
  refine g_if2 (i' := 28) (P := ¬ nI e = (-1)) rfl rfl Iff.rfl (fun _ => ?_) (fun h2 => absurd (nI_m1 (by omega)) h2)
  refine g_pure 7 (i' := 35) (lv' := [some (vR 8), some (vI (nI k)), some (vI (nI v)), some (vI (nI e)), some (vI (nI l)), z5]) (st' := [vI (nI v), vR 10, vI (nI e), vI (nI v), vR 200]) rfl ?_
  refine g_ald rfl (g_A (a := 10) (kd := 1) (n := 6) rfl (by decide)) (by decide) (show nI v = nI v from (rfl : nI v = nI v)) (by omega) (show _ = nI x from hx) ?_
  refine g_cV1 rfl (args := [vR 200, vI (nI v), vI (nI e), vI (nI x)]) (rest := []) rfl rfl rfl (s_111 (d := d) hI hL hD (by omega) (by omega) (by omega) (by omega) (by omega)) ?_
  refine g_pure 3 (i' := 40) (lv' := [some (vR 8), some (vI (nI k)), some (vI (nI v)), some (vI (nI e)), some (vI (nI l)), some (vI (nI (x + ((pgf S v e) + sn S 9 - (x % sn S 9)) % sn S 9)))]) (st' := [vI (nI l), vI (nI (x + ((pgf S v e) + sn S 9 - (x % sn S 9)) % sn S 9))]) rfl ?_
  refine g_if2 (i' := 43) (P := nI (x + ((pgf S v e) + sn S 9 - (x % sn S 9)) % sn S 9) ≤ nI l) rfl rfl Iff.rfl (fun h3 => ?_) (fun h3 => ?_)
  · refine g_pure 1 (i' := 44) (lv' := [some (vR 8), some (vI (nI k)), some (vI (nI v)), some (vI (nI e)), some (vI (nI l)), some (vI (nI (x + ((pgf S v e) + sn S 9 - (x % sn S 9)) % sn S 9)))]) (st' := [vI (nI (x + ((pgf S v e) + sn S 9 - (x % sn S 9)) % sn S 9))]) rfl ?_
    refine g_iret rfl ?_
    exact o1 h3
  · refine g_pure 2 (i' := 44) (lv' := [some (vR 8), some (vI (nI k)), some (vI (nI v)), some (vI (nI e)), some (vI (nI l)), some (vI (nI (x + ((pgf S v e) + sn S 9 - (x % sn S 9)) % sn S 9)))]) (st' := [vI (-1)]) rfl ?_
    refine g_iret rfl ?_
    exact o2 h3

theorem b_272_0 {X : Nat × (Nat → Int32)} {d : Nat} {p : Nat → Nat} {sg : Mg} {Q : am_R → Prop} {B : Nat} {S : Nat → Int32} (hI : Inv B S) (hS : sg 801 = S) (hA : InvA S) {k : Nat} {v : Nat} {z : Int32} (u_k : k ≤ 7) (u_v : v ≤ 5) (q1 : k < sn S 1)
    (o1 : ∀ s1 : Mg, (SR sg s1 ∧ ∃ C, cnM 809 1236 s1 C ∧ cnP S k (hmN S k) (stN S k) C) → gW X (d + 10) k_272 5 [some (vR 800), some (vI (nI k)), some (vI (nI v)), some (vI z), some (vI 0)] [] p s1 Q) :
    gW X (d + 10) k_272 0 [some (vR 800), some (vI (nI k)), some (vI (nI v)), some (vI z), none] [] p sg Q := by
  have b0 := hI.b0; have b1 := hI.b1; have b2 := hI.b2; have b3 := hI.b3; have b4 := hI.b4; have b5 := hI.b5; have b6 := hI.b6; have b7 := hI.b7; have b8 := hI.b8; have b9 := hI.b9; have b14 := hI.b14
  refine g_pure 2 (i' := 2) (lv' := [some (vR 800), some (vI (nI k)), some (vI (nI v)), some (vI z), none]) (st' := [vI (nI k), vR 800]) rfl ?_
  refine g_cV0E rfl (args := [vR 800, vI (nI k)]) (rest := []) rfl rfl rfl (s_273 (d := d) hI hS hA (by omega)) (fun s1 es1 => ?_)
  have hSs1 : s1 801 = S := es1.1.S hS
  refine g_pure 2 (i' := 5) (lv' := [some (vR 800), some (vI (nI k)), some (vI (nI v)), some (vI z), some (vI 0)]) (st' := []) rfl ?_
  exact o1 s1 es1

theorem b_272_n {X : Nat × (Nat → Int32)} {d : Nat} {p : Nat → Nat} {sg : Mg} {Q : am_R → Prop} {B : Nat} {S : Nat → Int32} (hI : Inv B S) (hS : sg 801 = S) {C : Nat → Bool} (hC : cnM 809 1236 sg C) {z1 : Option AV} {v : Nat} {t : Nat} (u_v : v ≤ 5) (u_t : t ≤ 201)
    (o1 : (200 < t) → Q (gRv p sg (-1)))
    (o2 : (¬ (200 < t)) → (¬ (C (6 * t + v) = true)) → gW X (d + 10) k_272 5 [some (vR 800), z1, some (vI (nI v)), some (vI (-1)), some (vI (nI (t + 1)))] [] p sg Q)
    (o3 : (¬ (200 < t)) → ((C (6 * t + v) = true)) → Q (gRv p sg (nI t))) :
    gW X (d + 10) k_272 5 [some (vR 800), z1, some (vI (nI v)), some (vI (-1)), some (vI (nI t))] [] p sg Q := by
  have b0 := hI.b0; have b1 := hI.b1; have b2 := hI.b2; have b3 := hI.b3; have b4 := hI.b4; have b5 := hI.b5; have b6 := hI.b6; have b7 := hI.b7; have b8 := hI.b8; have b9 := hI.b9; have b14 := hI.b14
  refine g_pure 2 (i' := 7) (lv' := [some (vR 800), z1, some (vI (nI v)), some (vI (-1)), some (vI (nI t))]) (st' := [vI 200, vI (nI t)]) rfl ?_
  refine g_if2 (i' := 28) (P := 200 < t) rfl rfl (g_gtN (show nI t = nI t from (rfl : nI t = nI t)) (show 200 = nI 200 from (show (200 : Int32) = nI 200 from rfl)) (by omega) (by omega)) (fun h1 => ?_) (fun h1 => ?_)
  · refine g_pure 1 (i' := 29) (lv' := [some (vR 800), z1, some (vI (nI v)), some (vI (-1)), some (vI (nI t))]) (st' := [vI (-1)]) rfl ?_
    refine g_iret rfl ?_
    exact o1 h1
  · refine g_pure 3 (i' := 11) (lv' := [some (vR 800), z1, some (vI (nI v)), some (vI (-1)), some (vI (nI t))]) (st' := [vI (nI v), vI (nI t), vR 800]) rfl ?_
    refine g_cV1 rfl (args := [vR 800, vI (nI t), vI (nI v)]) (rest := []) rfl rfl rfl (s_278 (d := d + 8) hI hS hC (by omega) (by omega)) ?_
    refine g_if1 (i' := 26) (P := ¬ (C (6 * t + v) = true)) rfl rfl g_eqB (fun h2 => ?_) (fun h2 => ?_)
    · refine g_pure 2 (i' := 5) (lv' := [some (vR 800), z1, some (vI (nI v)), some (vI (-1)), some (vI (nI t + 1))]) (st' := []) rfl ?_
      refine gW_eq (lv' := [some (vR 800), z1, some (vI (nI v)), some (vI (-1)), some (vI (nI (t + 1)))]) (st' := []) (by rw [(show (nI t + 1) = nI (t + 1) from ((g_add (rfl : nI t = nI t) (show (1 : Int32) = nI 1 from rfl))).trans (congrArg nI (by omega)))]) rfl rfl ?_
      exact o2 h1 h2
    · have h2 := Classical.not_not.mp h2
      refine g_pure 1 (i' := 14) (lv' := [some (vR 800), z1, some (vI (nI v)), some (vI (-1)), some (vI (nI t))]) (st' := [vI (-1)]) rfl ?_
      refine g_if1 (i' := 24) (P := ((-1) : Int32) < 0) rfl rfl Iff.rfl (fun _ => ?_) (fun h3 => absurd (by decide) h3)
      refine g_pure 1 (i' := 25) (lv' := [some (vR 800), z1, some (vI (nI v)), some (vI (-1)), some (vI (nI t))]) (st' := [vI (nI t)]) rfl ?_
      refine g_iret rfl ?_
      exact o3 h1 h2

theorem b_272_e {X : Nat × (Nat → Int32)} {d : Nat} {p : Nat → Nat} {sg : Mg} {Q : am_R → Prop} {B : Nat} {S : Nat → Int32} (hI : Inv B S) (hS : sg 801 = S) {C : Nat → Bool} (hC : cnM 809 1236 sg C) {z1 : Option AV} {v : Nat} {e : Nat} {t : Nat} (u_v : v ≤ 5) (u_e : e ≤ 15) (u_t : t ≤ 201) (q1 : v < sn S 0)
    (o1 : (200 < t) → Q (gRv p sg (-1)))
    (o2 : (¬ (200 < t)) → (¬ (C (6 * t + v) = true)) → gW X (d + 10) k_272 5 [some (vR 800), z1, some (vI (nI v)), some (vI (nI e)), some (vI (nI (t + 1)))] [] p sg Q)
    (o3 : (¬ (200 < t)) → ((C (6 * t + v) = true)) → (¬ sn S (17 + 16 * v + ((sn S 8 + t) % (sn S 9))) = e) → gW X (d + 10) k_272 5 [some (vR 800), z1, some (vI (nI v)), some (vI (nI e)), some (vI (nI (t + 1)))] [] p sg Q)
    (o4 : (¬ (200 < t)) → ((C (6 * t + v) = true)) → (sn S (17 + 16 * v + ((sn S 8 + t) % (sn S 9))) = e) → Q (gRv p sg (nI t))) :
    gW X (d + 10) k_272 5 [some (vR 800), z1, some (vI (nI v)), some (vI (nI e)), some (vI (nI t))] [] p sg Q := by
  have b0 := hI.b0; have b1 := hI.b1; have b2 := hI.b2; have b3 := hI.b3; have b4 := hI.b4; have b5 := hI.b5; have b6 := hI.b6; have b7 := hI.b7; have b8 := hI.b8; have b9 := hI.b9; have b14 := hI.b14
  refine g_pure 2 (i' := 7) (lv' := [some (vR 800), z1, some (vI (nI v)), some (vI (nI e)), some (vI (nI t))]) (st' := [vI 200, vI (nI t)]) rfl ?_
  refine g_if2 (i' := 28) (P := 200 < t) rfl rfl (g_gtN (show nI t = nI t from (rfl : nI t = nI t)) (show 200 = nI 200 from (show (200 : Int32) = nI 200 from rfl)) (by omega) (by omega)) (fun h1 => ?_) (fun h1 => ?_)
  · refine g_pure 1 (i' := 29) (lv' := [some (vR 800), z1, some (vI (nI v)), some (vI (nI e)), some (vI (nI t))]) (st' := [vI (-1)]) rfl ?_
    refine g_iret rfl ?_
    exact o1 h1
  · refine g_pure 3 (i' := 11) (lv' := [some (vR 800), z1, some (vI (nI v)), some (vI (nI e)), some (vI (nI t))]) (st' := [vI (nI v), vI (nI t), vR 800]) rfl ?_
    refine g_cV1 rfl (args := [vR 800, vI (nI t), vI (nI v)]) (rest := []) rfl rfl rfl (s_278 (d := d + 8) hI hS hC (by omega) (by omega)) ?_
    refine g_if1 (i' := 26) (P := ¬ (C (6 * t + v) = true)) rfl rfl g_eqB (fun h2 => ?_) (fun h2 => ?_)
    · refine g_pure 2 (i' := 5) (lv' := [some (vR 800), z1, some (vI (nI v)), some (vI (nI e)), some (vI (nI t + 1))]) (st' := []) rfl ?_
      refine gW_eq (lv' := [some (vR 800), z1, some (vI (nI v)), some (vI (nI e)), some (vI (nI (t + 1)))]) (st' := []) (by rw [(show (nI t + 1) = nI (t + 1) from ((g_add (rfl : nI t = nI t) (show (1 : Int32) = nI 1 from rfl))).trans (congrArg nI (by omega)))]) rfl rfl ?_
      exact o2 h1 h2
    · have h2 := Classical.not_not.mp h2
      refine g_pure 1 (i' := 14) (lv' := [some (vR 800), z1, some (vI (nI v)), some (vI (nI e)), some (vI (nI t))]) (st' := [vI (nI e)]) rfl ?_
      refine g_if1 (i' := 24) (P := e < 0) rfl rfl (g_ltN (show nI e = nI e from (rfl : nI e = nI e)) (show 0 = nI 0 from (show (0 : Int32) = nI 0 from rfl)) (by omega) (by omega)) (fun h3 => absurd h3 (by omega)) (fun _ => ?_)
      refine g_pure 3 (i' := 18) (lv' := [some (vR 800), z1, some (vI (nI v)), some (vI (nI e)), some (vI (nI t))]) (st' := [vR 800, vI (nI v), vR 800]) rfl ?_
      refine g_cV1 rfl (args := [vR 800]) (rest := [vI (nI v), vR 800]) rfl rfl rfl (s_248 (d := d + 9) hS) ?_
      refine g_pure 2 (i' := 21) (lv' := [some (vR 800), z1, some (vI (nI v)), some (vI (nI e)), some (vI (nI t))]) (st' := [vI (S 8 + nI t), vI (nI v), vR 800]) rfl ?_
      refine gW_eq (lv' := [some (vR 800), z1, some (vI (nI v)), some (vI (nI e)), some (vI (nI t))]) (st' := [vI (nI (sn S 8 + t)), vI (nI v), vR 800]) rfl (by rw [(show (S 8 + nI t) = nI (sn S 8 + t) from ((g_add (hI.c8) (rfl : nI t = nI t))).trans (congrArg nI (by omega)))]) rfl ?_
      refine g_cV1 rfl (args := [vR 800, vI (nI v), vI (nI (sn S 8 + t))]) (rest := []) rfl rfl rfl (s_232 (d := d + 8) hI hS (by omega) (by omega)) ?_
      have t4 := Nat.mod_lt ((sn S 8 + t)) (y := sn S 9) (by omega)
      refine g_pure 1 (i' := 23) (lv' := [some (vR 800), z1, some (vI (nI v)), some (vI (nI e)), some (vI (nI t))]) (st' := [vI (nI e), vI (S (17 + 16 * v + ((sn S 8 + t) % (sn S 9))))]) rfl ?_
      have t5 := hI.tbb (v := v) (q := ((sn S 8 + t) % (sn S 9))) (by omega) (by omega)
      refine g_if2 (i' := 26) (P := ¬ sn S (17 + 16 * v + ((sn S 8 + t) % (sn S 9))) = e) rfl rfl (g_neN (show S (17 + 16 * v + ((sn S 8 + t) % (sn S 9))) = nI (sn S (17 + 16 * v + ((sn S 8 + t) % (sn S 9)))) from (hI.tb (by omega) (by omega))) (show nI e = nI e from (rfl : nI e = nI e)) (by omega) (by omega)) (fun h6 => ?_) (fun h6 => ?_)
      · refine g_pure 2 (i' := 5) (lv' := [some (vR 800), z1, some (vI (nI v)), some (vI (nI e)), some (vI (nI t + 1))]) (st' := []) rfl ?_
        refine gW_eq (lv' := [some (vR 800), z1, some (vI (nI v)), some (vI (nI e)), some (vI (nI (t + 1)))]) (st' := []) (by rw [(show (nI t + 1) = nI (t + 1) from ((g_add (rfl : nI t = nI t) (show (1 : Int32) = nI 1 from rfl))).trans (congrArg nI (by omega)))]) rfl rfl ?_
        exact o3 h1 h2 h6
      · have h6 := Classical.not_not.mp h6
        refine g_pure 1 (i' := 25) (lv' := [some (vR 800), z1, some (vI (nI v)), some (vI (nI e)), some (vI (nI t))]) (st' := [vI (nI t)]) rfl ?_
        refine g_iret rfl ?_
        exact o4 h1 h2 h6

noncomputable def rcB (S : Nat → Int32) (k v0 T0 T v : Nat) : Bool := @decide (Rch S k v0 T0 T v) (Classical.propDecidable _)
theorem rcB_t {S : Nat → Int32} {k v0 T0 T v : Nat} : rcB S k v0 T0 T v = true ↔ Rch S k v0 T0 T v := by unfold rcB; exact @decide_eq_true_iff _ (Classical.propDecidable _)
theorem rcB_f {S : Nat → Int32} {k v0 T0 T v : Nat} : rcB S k v0 T0 T v = false ↔ ¬ Rch S k v0 T0 T v := by
  rw [← rcB_t]
  cases rcB S k v0 T0 T v <;> simp
/-- the day is the one that is asked for -/
def dyP (S : Nat → Int32) (v : Nat) (z : Int32) (T : Nat) : Bool := decide (z = -1) || decide (sn S (17 + 16 * v + T % sn S 9) = z.toNatClampNeg)
noncomputable def snP (S : Nat → Int32) (k v : Nat) (z : Int32) (t : Nat) : Bool := rcB S k (hmN S k) (stN S k) (sn S 8 + t) v && dyP S v z (sn S 8 + t)
/-- the soonest dawn; over 200: none -/
noncomputable def snT (S : Nat → Int32) (k v : Nat) (z : Int32) : Nat := fnd (snP S k v z) 201 0
theorem snT_at {S : Nat → Int32} {k v u : Nat} {z : Int32} (h : u ≤ 200) (hP : snP S k v z u = true) (hn : ∀ t, t < u → snP S k v z t = false) : snT S k v z = u := fnd_eq (Nat.zero_le _) (by omega) hP (fun j _ hj => hn j hj)
theorem snT_no {S : Nat → Int32} {k v : Nat} {z : Int32} (hn : ∀ t, t ≤ 200 → snP S k v z t = false) : ¬ snT S k v z < 201 := fun h => by
  have h2 := (fnd_spec (snP S k v z) 201 0).2.2.2 (by unfold snT at h; omega)
  unfold snT at h
  rw [hn _ (by omega)] at h2
  cases h2
noncomputable def snV (S : Nat → Int32) (k v : Nat) (z : Int32) : Int32 := if snT S k v z < 201 then nI (sn S 8 + snT S k v z) else -1
theorem snP_f {S : Nat → Int32} {k v t : Nat} {z : Int32} (h : Rch S k (hmN S k) (stN S k) (sn S 8 + t) v → dyP S v z (sn S 8 + t) = false) : snP S k v z t = false := by
  unfold snP
  by_cases c : Rch S k (hmN S k) (stN S k) (sn S 8 + t) v
  · rw [h c, Bool.and_false]
  · rw [rcB_f.mpr c, Bool.false_and]
theorem snP_t {S : Nat → Int32} {k v t : Nat} {z : Int32} (h : Rch S k (hmN S k) (stN S k) (sn S 8 + t) v) (h2 : dyP S v z (sn S 8 + t) = true) : snP S k v z t = true := by
  unfold snP
  rw [rcB_t.mpr h, h2]
  rfl
/-- what the ways may write -/
def WY (sg s : Mg) : Prop := ∀ c, (c < 8 ∨ 16 ≤ c) → (c < 100 ∨ 170 ≤ c) → c ≠ 201 → c ≠ 213 → s c = sg c
theorem WY.sf {a b : Mg} (h : SF a b) : WY a b := fun c c1 c2 c3 c4 => h c (by omega) (by omega) c3 c4
theorem WY.rf (sg : Mg) : WY sg sg := fun _ _ _ _ _ => rfl
theorem WY.tr {a b c : Mg} (h : WY a b) (g : WY b c) : WY a c := fun x h1 h2 h3 h4 => (g x h1 h2 h3 h4).trans (h x h1 h2 h3 h4)
theorem WY.bg {a b : Mg} {P : Prop} (h : (∀ c, c ≠ 8 → c ≠ 9 → b c = a c) ∧ P) : WY a b := fun c c1 c2 c3 c4 => h.1 c (by omega) (by omega)
theorem WY.L {sg s : Mg} {S : Nat → Int32} (h : WY sg s) (hL : cwL 250 sg S) : cwL 250 s S := hL.eqc (fun c c1 c2 => h c (by omega) (by omega) (by omega) (by omega))
theorem WY.D {sg s : Mg} {S : Nat → Int32} (h : WY sg s) (hD : cwD 200 sg S) : cwD 200 s S := hD.eqc (fun c c1 => h c (by omega) (by omega) (by omega) (by omega))
theorem WY.W {sg s : Mg} {S : Nat → Int32} (h : WY sg s) (hW : LW S sg) : LW S s := hW.eqc (fun c c1 c2 => h c (by omega) (by omega) (by omega) (by omega))
theorem RC.wy {A : AS} {p : Nat → Nat} {sg s : Mg} (hR : RC A p sg) {B : Nat} (hI : RI B A) (h : WY sg s) : RC A p s := hR.ext hI.2.2.2.1 (fun c hc => h c (by unfold relC at hc; omega) (by unfold relC at hc; omega) (by unfold relC at hc; omega) (by unfold relC at hc; omega))
theorem s_81 {X : Nat × (Nat → Int32)} {d : Nat} {p : Nat → Nat} {sg : Mg} {B : Nat} {S : Nat → Int32} (hI : Inv B S) (hL : cwL 250 sg S) (hD : cwD 200 sg S) (hW : LW S sg) {k v : Nat} {z : Int32} (hk : k < sn S 1) (hv : v < sn S 0) (hz : z = -1 ∨ ∃ e, e < sn S 9 ∧ z = nI e) : gF X (d + 8) 81 [vR 8, vI (nI k), vI (nI v), vI z] p sg (fun r => ∃ s, (WY sg s ∧ bOK S s) ∧ r = gRv p s (snV S k v z)) := by
  have b0 := hI.b0; have b1 := hI.b1; have b8 := hI.b8; have b9 := hI.b9
  refine g_in (cd := k_81) (nL := 6) (rc := 10) rfl (g_A (a := 8) (kd := 0) (n := 9) rfl (by decide)) (g_c1 rfl) (b_81_0 hI hL hD hW (by omega) (by omega) hk (fun s1 h1 s2 h2 => ?_))
  have w2 : WY sg s2 := (WY.bg h1).tr (WY.sf h2.1)
  obtain ⟨F, hM, hP1, hP2⟩ := h2.2.2
  have hB := h2.2.1
  rw [show 200 + sn S 8 = sn S 8 + 200 by omega] at hP1 hP2
  have m := hM v (by omega)
  have nR : ∀ t, sn S 8 + t < F v → t ≤ 200 → ¬ Rch S k (hmN S k) (stN S k) (sn S 8 + t) v := fun t ht h2 hR => by have := hP2 _ v hv (by omega) hR; omega
  rcases hP1 v hv with hF | hF
  · refine b_81_x hI (w2.L hL) (w2.D hD) (by omega) (by omega) (by omega) (m.1.trans (by rw [hF]; rfl)) ⟨s2, ⟨w2, hB⟩, ?_⟩
    have : ¬ snT S k v z < 201 := snT_no (fun t ht => snP_f (fun hR => absurd hR (nR t (by omega) ht)))
    unfold snV
    rw [if_neg this]
  · have hge := hF.2.ge
    have hst := (hm_ok hI hk).2.1
    rcases hz with rfl | ⟨e, he, rfl⟩
    · refine b_81_n hI (w2.L hL) (w2.D hD) (by omega) (by omega) (by omega) (by omega) m.1 (fun _ => ⟨s2, ⟨w2, hB⟩, ?_⟩) (fun h => by omega)
      have e1 : sn S 8 + (F v - sn S 8) = F v := by omega
      have : snT S k v (-1) = F v - sn S 8 := snT_at (by omega) (snP_t (by rw [e1]; exact hF.2) (by unfold dyP; rfl)) (fun t ht => snP_f (fun hR => absurd hR (nR t (by omega) (by omega))))
      unfold snV
      rw [this, if_pos (by omega), e1]
    · have hn1 := nxt_lt hI v e (F v)
      have hn2 : F v ≤ nxt S v e (F v) := Nat.le_add_right _ _
      have hn3 := nxt_mod hI (F v) hv he
      have hn4 : ∀ u, F v ≤ u → u < nxt S v e (F v) → ¬ sn S (17 + 16 * v + u % sn S 9) = e := fun u h1 h2 => nxt_no hI hv he h1 h2
      have hn5 : sn S (17 + 16 * v + nxt S v e (F v) % sn S 9) = e := by rw [hn3]; exact (pgf_ok hI hv he).2.1
      have hne := nI_m1 (show e < 2147483648 by omega)
      have hno : ∀ t, sn S 8 + t < nxt S v e (F v) → t ≤ 200 → snP S k v (nI e) t = false := fun t ht h200 => snP_f (fun hR => by
        have h9 : F v ≤ sn S 8 + t := hP2 _ v hv (by omega) hR
        unfold dyP
        rw [decide_eq_false hne, Bool.false_or, nI_clamp (by omega), decide_eq_false (hn4 _ h9 ht)])
      refine b_81_e hI (w2.L hL) (w2.D hD) (by omega) (by omega) (by omega) (by omega) (by omega) hv he m.1 (fun h => ⟨s2, ⟨w2, hB⟩, ?_⟩) (fun h => ⟨s2, ⟨w2, hB⟩, ?_⟩)
      all_goals
        rw [show F v + (pgf S v e + sn S 9 - F v % sn S 9) % sn S 9 = nxt S v e (F v) from rfl, nI_leI (by omega) (by omega)] at h
        unfold snV
      · have e1 : sn S 8 + (nxt S v e (F v) - sn S 8) = nxt S v e (F v) := by omega
        have : snT S k v (nI e) = nxt S v e (F v) - sn S 8 := snT_at (by omega) (snP_t (by rw [e1]; exact hF.2.mono hn2) (by unfold dyP; rw [e1, nI_clamp (by omega), decide_eq_true hn5, Bool.or_true])) (fun t ht => hno t (by omega) (by omega))
        rw [this, if_pos (by omega), e1]
        rfl
      · rw [if_neg (snT_no (fun t ht => hno t (by omega) ht))]
theorem s_272 {X : Nat × (Nat → Int32)} {d : Nat} {p : Nat → Nat} {sg : Mg} {B : Nat} {S : Nat → Int32} (hI : Inv B S) (hS : sg 801 = S) (hA : InvA S) {k v : Nat} {z : Int32} (hk : k < sn S 1) (hv : v < sn S 0) (hz : z = -1 ∨ ∃ e, e < sn S 9 ∧ z = nI e) : gF X (d + 11) 272 [vR 800, vI (nI k), vI (nI v), vI z] p sg (fun r => ∃ s, SR sg s ∧ r = gRv p s (if snT S k v z < 201 then nI (snT S k v z) else -1)) := by
  have b0 := hI.b0; have b1 := hI.b1; have b8 := hI.b8; have b9 := hI.b9
  refine g_in (cd := k_272) (nL := 5) (rc := 13) rfl (g_A (a := 800) (kd := 0) (n := 12) rfl (by decide)) (g_c1 rfl) (b_272_0 hI hS hA (by omega) (by omega) hk (fun s h => ?_))
  obtain ⟨hs, C, hC, hP⟩ := h
  refine g_upI (P := fun t => gW X (d + 10) k_272 5 [some (vR 800), some (vI (nI k)), some (vI (nI v)), some (vI z), some (vI (nI t))] [] p s _) (I := fun t => ∀ i, i < t → snP S k v z i = false) (n := 201) (a := 0) (by omega) none_below (fun t _ ht hi ih => ?_) (fun hi => ?_)
  · have c1 : (C (6 * t + v) = true) → snP S k v z t = dyP S v z (sn S 8 + t) := fun h => by
      unfold snP
      rw [rcB_t.mpr ((hP t v (by omega) hv).mp h), Bool.true_and]
    have c0 : ¬ (C (6 * t + v) = true) → snP S k v z t = false := fun h => snP_f (fun hR => absurd ((hP t v (by omega) hv).mpr hR) h)
    have at_ : snP S k v z t = true → gRv p s (nI t) = gRv p s (if snT S k v z < 201 then nI (snT S k v z) else -1) := fun h => by
      have := snT_at (show t ≤ 200 by omega) h hi
      rw [this, if_pos (by omega)]
    rcases hz with rfl | ⟨e, he, rfl⟩
    · refine b_272_n hI (hs.S hS) hC (by omega) (by omega) (fun h => by omega) (fun _ h => ih (not_below hi (c0 h))) (fun _ h => ⟨s, hs, at_ (by rw [c1 h]; unfold dyP; rfl)⟩)
    · have hne := nI_m1 (show e < 2147483648 by omega)
      refine b_272_e hI (hs.S hS) hC (by omega) (by omega) (by omega) hv (fun h => by omega) (fun _ h => ih (not_below hi (c0 h))) (fun _ h h2 => ih (not_below hi ?_)) (fun _ h h2 => ⟨s, hs, at_ ?_⟩)
      · rw [c1 h]; unfold dyP; rw [decide_eq_false hne, Bool.false_or, nI_clamp (by omega), decide_eq_false h2]
      · rw [c1 h]; unfold dyP; rw [nI_clamp (by omega), decide_eq_true h2, Bool.or_true]
  · have hno := snT_no (S := S) (k := k) (v := v) (z := z) (fun t ht => hi t (by omega))
    rcases hz with rfl | ⟨e, he, rfl⟩
    · exact b_272_n hI (hs.S hS) hC (by omega) (by omega) (fun _ => ⟨s, hs, by rw [if_neg hno]⟩) (fun h => by omega) (fun h => by omega)
    · exact b_272_e hI (hs.S hS) hC (by omega) (by omega) (by omega) hv (fun _ => ⟨s, hs, by rw [if_neg hno]⟩) (fun h => by omega) (fun h => by omega) (fun h => by omega)
