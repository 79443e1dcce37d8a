/-! FEASTED: the call of the class (made by wip/whole/gen89b.py) -/
theorem b_101_0 {X : Nat × (Nat → Int32)} {d : Nat} {p : Nat → Nat} {sg : Mg} {Q : am_R → Prop} {B : Nat} {S : Nat → Int32} (hI : Inv B S) (hL : cwL 250 sg S) (hD : cwD 200 sg S) {b : Nat} {k : Nat} {v : Nat} {t : Nat} {n : Nat} (u_k : k ≤ 7) (u_v : v ≤ 5) (u_t : t ≤ 60) (u_n : n ≤ 60) (q1 : b ≤ 60) (hx : sg (100 + t) v = nI b)
    (o1 : gW X (d + 6) k_101 14 [some (vR 8), some (vI (nI k)), some (vI (nI v)), some (vI (nI t)), some (vI (nI n)), some (vI (nI b)), none, none] [vI (nI b), vI (nI n), vI (nI (t + 1)), vI (nI v), vR 8] p sg Q) :
    gW X (d + 6) k_101 0 [some (vR 8), some (vI (nI k)), some (vI (nI v)), some (vI (nI t)), some (vI (nI n)), none, none, none] [] p sg Q := by
  have b0 := hI.b0; have b1 := hI.b1; have b2 := hI.b2; have b3 := hI.b3; have b4 := hI.b4; have b5 := hI.b5; have b6 := hI.b6; have b7 := hI.b7; have b8 := hI.b8; have b9 := hI.b9; have b14 := hI.b14
  refine g_pure 3 (i' := 3) (lv' := [some (vR 8), some (vI (nI k)), some (vI (nI v)), some (vI (nI t)), some (vI (nI n)), none, none, none]) (st' := [vI (nI t), vR 14]) rfl ?_
  refine g_aald rfl (Or.inl rfl) (g_A (a := 14) (kd := 5) (n := 61) rfl (by decide)) (by decide) (show nI t = nI t from (rfl : nI t = nI t)) (by omega) (gR_14 (by omega)) ?_
  refine g_pure 1 (i' := 5) (lv' := [some (vR 8), some (vI (nI k)), some (vI (nI v)), some (vI (nI t)), some (vI (nI n)), none, none, none]) (st' := [vI (nI v), vR (100 + t)]) rfl ?_
  refine g_ald rfl (gA_14 (by omega)) (by decide) (show nI v = nI v from (rfl : nI v = nI v)) (by omega) (show _ = nI b from hx) ?_
  refine g_pure 8 (i' := 14) (lv' := [some (vR 8), some (vI (nI k)), some (vI (nI v)), some (vI (nI t)), some (vI (nI n)), some (vI (nI b)), none, none]) (st' := [vI (nI b), vI (nI n), vI (nI t + 1), vI (nI v), vR 8]) rfl ?_
  refine gW_eq (lv' := [some (vR 8), some (vI (nI k)), some (vI (nI v)), some (vI (nI t)), some (vI (nI n)), some (vI (nI b)), none, none]) (st' := [vI (nI b), vI (nI n), vI (nI (t + 1)), vI (nI v), vR 8]) rfl (by rw [(show (nI t + 1) = nI (t + 1) from ((g_add (rfl : nI t = nI t) (show (1 : Int32) = nI 1 from rfl))).trans (congrArg nI (by omega)))]) rfl ?_
  exact o1

theorem b_101_15 {X : Nat × (Nat → Int32)} {d : Nat} {p : Nat → Nat} {sg : Mg} {Q : am_R → Prop} {B : Nat} {S : Nat → Int32} (hI : Inv B S) (hL : cwL 250 sg S) (hD : cwD 200 sg S) (hW : LW S sg) (hB : bOK S sg) {k : Nat} {v : Nat} {t : Nat} {n : Nat} {b : Nat} {z6 : Option AV} {z7 : Option AV} (u_k : k ≤ 7) (u_v : v ≤ 5) (u_t : t ≤ 60) (u_n : n ≤ 60) (u_b : b ≤ 60) (q1 : k < sn S 1) (q2 : v < sn S 0)
    (o1 : (n ≤ t) → Q (gR0 p sg))
    (o2 : (¬ (n ≤ t)) → ∀ s2 : Mg, (WF sg s2 ∧ bOK S s2) → (bd S k v (sn S 8 + t) = true) → Q (gR0 p s2))
    (o3 : (¬ (n ≤ t)) → ∀ s2 : Mg, (WF sg s2 ∧ bOK S s2) → (¬ (bd S k v (sn S 8 + t) = true)) → gW X (d + 6) k_101 30 [some (vR 8), some (vI (nI k)), some (vI (nI v)), some (vI (nI t)), some (vI (nI n)), some (vI (nI b)), some (vI 0), z7] [] p s2 Q) :
    gW X (d + 6) k_101 15 [some (vR 8), some (vI (nI k)), some (vI (nI v)), some (vI (nI t)), some (vI (nI n)), some (vI (nI b)), z6, z7] [] p sg Q := by
  have b0 := hI.b0; have b1 := hI.b1; have b2 := hI.b2; have b3 := hI.b3; have b4 := hI.b4; have b5 := hI.b5; have b6 := hI.b6; have b7 := hI.b7; have b8 := hI.b8; have b9 := hI.b9; have b14 := hI.b14
  refine g_pure 2 (i' := 17) (lv' := [some (vR 8), some (vI (nI k)), some (vI (nI v)), some (vI (nI t)), some (vI (nI n)), some (vI (nI b)), z6, z7]) (st' := [vI (nI n), vI (nI t)]) rfl ?_
  refine g_if2 (i' := 62) (P := n ≤ t) rfl rfl (g_geN (show nI t = nI t from (rfl : nI t = nI t)) (show nI n = nI n from (rfl : nI n = nI n)) (by omega) (by omega)) (fun h1 => ?_) (fun h1 => ?_)
  · refine g_vret rfl ?_
    exact o1 h1
  · refine g_pure 5 (i' := 23) (lv' := [some (vR 8), some (vI (nI k)), some (vI (nI v)), some (vI (nI t)), some (vI (nI n)), some (vI (nI b)), z6, z7]) (st' := [vR 250, vI (nI v), vI (nI k), vR 8]) rfl ?_
    refine g_getI rfl (g_A (a := 250) (kd := 0) (n := 6) rfl (by decide)) (show _ = S 8 from hL.f12) ?_
    refine g_pure 2 (i' := 26) (lv' := [some (vR 8), some (vI (nI k)), some (vI (nI v)), some (vI (nI t)), some (vI (nI n)), some (vI (nI b)), z6, z7]) (st' := [vI (S 8 + nI t), vI (nI v), vI (nI k), vR 8]) rfl ?_
    refine gW_eq (lv' := [some (vR 8), some (vI (nI k)), some (vI (nI v)), some (vI (nI t)), some (vI (nI n)), some (vI (nI b)), z6, z7]) (st' := [vI (nI (sn S 8 + t)), vI (nI v), vI (nI k), vR 8]) rfl (by rw [(show (S 8 + nI t) = nI (sn S 8 + t) from ((g_add (hI.c8) (rfl : nI t = nI t))).trans (congrArg nI (by omega)))]) rfl ?_
    refine g_cV1E rfl (args := [vR 8, vI (nI k), vI (nI v), vI (nI (sn S 8 + t))]) (rest := []) rfl rfl rfl (s_88 (d := d + 1) hI hL hD hW hB (by omega) (by omega) (by omega) (by omega)) (fun s2 es2 => ?_)
    have hLs2 : cwL 250 s2 S := (hL).eqc (fun c h1 h2 => es2.1 c (by omega) (by omega) (by omega))
    have hDs2 : cwD 200 s2 S := (hD).eqc (fun c h1 => es2.1 c (by omega) (by omega) (by omega))
    have hWs2 : LW S s2 := (hW).eqc (fun c h1 h2 => es2.1 c (by omega) (by omega) (by omega))
    refine g_if1 (i' := 62) (P := bd S k v (sn S 8 + t) = true) rfl rfl g_neB (fun h3 => ?_) (fun h3 => ?_)
    · refine g_vret rfl ?_
      exact o2 h1 s2 es2 h3
    · refine g_pure 2 (i' := 30) (lv' := [some (vR 8), some (vI (nI k)), some (vI (nI v)), some (vI (nI t)), some (vI (nI n)), some (vI (nI b)), some (vI 0), z7]) (st' := []) rfl ?_
      exact o3 h1 s2 es2 h3

theorem b_101_30 {X : Nat × (Nat → Int32)} {d : Nat} {p : Nat → Nat} {sg : Mg} {Q : am_R → Prop} {B : Nat} {S : Nat → Int32} (hI : Inv B S) (hL : cwL 250 sg S) (hD : cwD 200 sg S) {k : Nat} {v : Nat} {t : Nat} {n : Nat} {b : Nat} {j : Nat} {z7 : Option AV} (u_k : k ≤ 7) (u_v : v ≤ 5) (u_t : t ≤ 60) (u_n : n ≤ 60) (u_b : b ≤ 60) (u_j : j ≤ 12) (q1 : v < sn S 0)
    (o1 : (sn S 3 ≤ j) → Q (gR0 p sg))
    (o2 : (¬ (sn S 3 ≤ j)) → (otP S j v) → (nI (otN S j v) = (-1)) → gW X (d + 6) k_101 30 [some (vR 8), some (vI (nI k)), some (vI (nI v)), some (vI (nI t)), some (vI (nI n)), some (vI (nI b)), some (vI (nI (j + 1))), some (vI (nI (otN S j v)))] [] p sg Q)
    (o3 : (¬ (sn S 3 ≤ j)) → (otP S j v) → (¬ (nI (otN S j v) = (-1))) → gW X (d + 6) k_101 46 [some (vR 8), some (vI (nI k)), some (vI (nI v)), some (vI (nI t)), some (vI (nI n)), some (vI (nI b)), some (vI (nI j)), some (vI (nI (otN S j v)))] [] p sg Q)
    (o4 : (¬ (sn S 3 ≤ j)) → (¬ otP S j v) → gW X (d + 6) k_101 30 [some (vR 8), some (vI (nI k)), some (vI (nI v)), some (vI (nI t)), some (vI (nI n)), some (vI (nI b)), some (vI (nI (j + 1))), some (vI (-1))] [] p sg Q) :
    gW X (d + 6) k_101 30 [some (vR 8), some (vI (nI k)), some (vI (nI v)), some (vI (nI t)), some (vI (nI n)), some (vI (nI b)), some (vI (nI j)), z7] [] p sg Q := by
  have b0 := hI.b0; have b1 := hI.b1; have b2 := hI.b2; have b3 := hI.b3; have b4 := hI.b4; have b5 := hI.b5; have b6 := hI.b6; have b7 := hI.b7; have b8 := hI.b8; have b9 := hI.b9; have b14 := hI.b14
  refine g_pure 5 (i' := 35) (lv' := [some (vR 8), some (vI (nI k)), some (vI (nI v)), some (vI (nI t)), some (vI (nI n)), some (vI (nI b)), some (vI (nI j)), z7]) (st' := [vI 3, vR 203, vI (nI j)]) rfl ?_
  refine g_ald rfl (g_A (a := 203) (kd := 1) (n := 6) rfl (by decide)) (by decide) (show 3 = nI 3 from (show (3 : Int32) = nI 3 from rfl)) (by decide) (show _ = S 3 from (hD.cnt (by decide))) ?_
  refine g_if2 (i' := 62) (P := sn S 3 ≤ j) rfl rfl (g_geN (show nI j = nI j from (rfl : nI j = nI j)) (show S 3 = nI (sn S 3) from (hI.c3)) (by omega) (by omega)) (fun h1 => ?_) (fun h1 => ?_)
  · refine g_vret rfl ?_
    exact o1 h1
  · refine g_pure 4 (i' := 41) (lv' := [some (vR 8), some (vI (nI k)), some (vI (nI v)), some (vI (nI t)), some (vI (nI n)), some (vI (nI b)), some (vI (nI j)), z7]) (st' := [vI (nI v), vI (nI j), vR 202]) rfl ?_
    by_cases h2 : otP S j v
    · refine g_cV1 rfl (args := [vR 202, vI (nI j), vI (nI v)]) (rest := []) rfl rfl rfl (s_39o (d := d + 4) hI hL hD (by omega) (by omega) (by omega) (by assumption)) ?_
      have t3 := otN_lt hI (r := j) (by omega) v
      refine g_pure 3 (i' := 45) (lv' := [some (vR 8), some (vI (nI k)), some (vI (nI v)), some (vI (nI t)), some (vI (nI n)), some (vI (nI b)), some (vI (nI j)), some (vI (nI (otN S j v)))]) (st' := [vI (-1), vI (nI (otN S j v))]) rfl ?_
      refine g_if2 (i' := 60) (P := nI (otN S j v) = (-1)) rfl rfl Iff.rfl (fun h4 => ?_) (fun h4 => ?_)
      · refine g_pure 2 (i' := 30) (lv' := [some (vR 8), some (vI (nI k)), some (vI (nI v)), some (vI (nI t)), some (vI (nI n)), some (vI (nI b)), some (vI (nI j + 1)), some (vI (nI (otN S j v)))]) (st' := []) rfl ?_
        refine gW_eq (lv' := [some (vR 8), some (vI (nI k)), some (vI (nI v)), some (vI (nI t)), some (vI (nI n)), some (vI (nI b)), some (vI (nI (j + 1))), some (vI (nI (otN S j v)))]) (st' := []) (by rw [(show (nI j + 1) = nI (j + 1) from ((g_add (rfl : nI j = nI j) (show (1 : Int32) = nI 1 from rfl))).trans (congrArg nI (by omega)))]) rfl rfl ?_
        exact o2 h1 h2 h4
      · exact o3 h1 h2 h4
    · refine g_cV1 rfl (args := [vR 202, vI (nI j), vI (nI v)]) (rest := []) rfl rfl rfl (s_39x (d := d + 4) hI hL hD (by omega) (by omega) (by omega) (by assumption)) ?_
      refine g_pure 3 (i' := 45) (lv' := [some (vR 8), some (vI (nI k)), some (vI (nI v)), some (vI (nI t)), some (vI (nI n)), some (vI (nI b)), some (vI (nI j)), some (vI (-1))]) (st' := [vI (-1), vI (-1)]) rfl ?_
      refine g_if2 (i' := 60) (P := ((-1) : Int32) = (-1)) rfl rfl Iff.rfl (fun _ => ?_) (fun h5 => absurd (by decide) h5)
      refine g_pure 2 (i' := 30) (lv' := [some (vR 8), some (vI (nI k)), some (vI (nI v)), some (vI (nI t)), some (vI (nI n)), some (vI (nI b)), some (vI (nI j + 1)), some (vI (-1))]) (st' := []) rfl ?_
      refine gW_eq (lv' := [some (vR 8), some (vI (nI k)), some (vI (nI v)), some (vI (nI t)), some (vI (nI n)), some (vI (nI b)), some (vI (nI (j + 1))), some (vI (-1))]) (st' := []) (by rw [(show (nI j + 1) = nI (j + 1) from ((g_add (rfl : nI j = nI j) (show (1 : Int32) = nI 1 from rfl))).trans (congrArg nI (by omega)))]) rfl rfl ?_
      exact o4 h1 h2

theorem b_101_46 {X : Nat × (Nat → Int32)} {d : Nat} {p : Nat → Nat} {sg : Mg} {Q : am_R → Prop} {B : Nat} {S : Nat → Int32} (hI : Inv B S) (hL : cwL 250 sg S) (hD : cwD 200 sg S) {k : Nat} {v : Nat} {t : Nat} {n : Nat} {b : Nat} {j : Nat} {u : Nat} (u_k : k ≤ 7) (u_v : v ≤ 5) (u_t : t ≤ 60) (u_n : n ≤ 60) (u_b : b ≤ 60) (u_j : j ≤ 11) (u_u : u ≤ 5) (q1 : j < sn S 3)
    (o1 : gW X (d + 6) k_101 59 [some (vR 8), some (vI (nI k)), some (vI (nI v)), some (vI (nI t)), some (vI (nI n)), some (vI (nI b)), some (vI (nI j)), some (vI (nI u))] [vI (nI b), vI (nI n), vI (nI (t + sn S (177 + 3 * j + 2))), vI (nI u), vR 8] p sg Q) :
    gW X (d + 6) k_101 46 [some (vR 8), some (vI (nI k)), some (vI (nI v)), some (vI (nI t)), some (vI (nI n)), some (vI (nI b)), some (vI (nI j)), some (vI (nI u))] [] p sg Q := by
  have b0 := hI.b0; have b1 := hI.b1; have b2 := hI.b2; have b3 := hI.b3; have b4 := hI.b4; have b5 := hI.b5; have b6 := hI.b6; have b7 := hI.b7; have b8 := hI.b8; have b9 := hI.b9; have b14 := hI.b14
  refine g_pure 7 (i' := 53) (lv' := [some (vR 8), some (vI (nI k)), some (vI (nI v)), some (vI (nI t)), some (vI (nI n)), some (vI (nI b)), some (vI (nI j)), some (vI (nI u))]) (st' := [vI (nI j), vR 205, vI (nI t), vI (nI u), vR 8]) rfl ?_
  refine g_aald rfl (Or.inl rfl) (g_A (a := 205) (kd := 5) (n := 12) rfl (by decide)) (by decide) (show nI j = nI j from (rfl : nI j = nI j)) (by omega) (gR_205 (by omega)) ?_
  refine g_pure 1 (i' := 55) (lv' := [some (vR 8), some (vI (nI k)), some (vI (nI v)), some (vI (nI t)), some (vI (nI n)), some (vI (nI b)), some (vI (nI j)), some (vI (nI u))]) (st' := [vI 2, vR (222 + j), vI (nI t), vI (nI u), vR 8]) rfl ?_
  refine g_ald rfl (gA_205 (by omega)) (by decide) (show 2 = nI 2 from (show (2 : Int32) = nI 2 from rfl)) (by decide) (show _ = S (177 + 3 * j + 2) from (hD.roa 2 (by omega) (by decide))) ?_
  have t1 := (hI.roa (k := j) (by omega)).2.2.1
  have t1b := t1.2
  refine g_pure 3 (i' := 59) (lv' := [some (vR 8), some (vI (nI k)), some (vI (nI v)), some (vI (nI t)), some (vI (nI n)), some (vI (nI b)), some (vI (nI j)), some (vI (nI u))]) (st' := [vI (nI b), vI (nI n), vI (nI t + S (177 + 3 * j + 2)), vI (nI u), vR 8]) rfl ?_
  refine gW_eq (lv' := [some (vR 8), some (vI (nI k)), some (vI (nI v)), some (vI (nI t)), some (vI (nI n)), some (vI (nI b)), some (vI (nI j)), some (vI (nI u))]) (st' := [vI (nI b), vI (nI n), vI (nI (t + sn S (177 + 3 * j + 2))), vI (nI u), vR 8]) rfl (by rw [(show (nI t + S (177 + 3 * j + 2)) = nI (t + sn S (177 + 3 * j + 2)) from ((g_add (rfl : nI t = nI t) t1.1)).trans (congrArg nI (by omega)))]) rfl ?_
  exact o1

theorem b_99_0 {X : Nat × (Nat → Int32)} {d : Nat} {p : Nat → Nat} {sg : Mg} {Q : am_R → Prop} {B : Nat} {S : Nat → Int32} (hI : Inv B S) (hL : cwL 250 sg S) (hD : cwD 200 sg S) (hW : LW S sg) {k : Nat} {n : Nat} (u_k : k ≤ 7) (u_n : n ≤ 60)
    (o1 : ∀ s1 : Mg, ((∀ c, c ≠ 8 → c ≠ 9 → s1 c = sg c) ∧ bOK S s1) → gW X (d + 7) k_99 4 [some (vR 8), some (vI (nI k)), some (vI (nI n)), some (vI 0), none, none, none, none] [] p s1 Q) :
    gW X (d + 7) k_99 0 [some (vR 8), some (vI (nI k)), some (vI (nI n)), none, none, none, none, none] [] p sg Q := by
  have b0 := hI.b0; have b1 := hI.b1; have b2 := hI.b2; have b3 := hI.b3; have b4 := hI.b4; have b5 := hI.b5; have b6 := hI.b6; have b7 := hI.b7; have b8 := hI.b8; have b9 := hI.b9; have b14 := hI.b14
  refine g_pure 1 (i' := 1) (lv' := [some (vR 8), some (vI (nI k)), some (vI (nI n)), none, none, none, none, none]) (st' := [vR 8]) rfl ?_
  refine g_cV0E rfl (args := [vR 8]) (rest := []) rfl rfl rfl (s_82 (d := d + 5) hW) (fun s1 es1 => ?_)
  have hLs1 : cwL 250 s1 S := (hL).eqc (fun c h1 h2 => es1.1 c (by omega) (by omega))
  have hDs1 : cwD 200 s1 S := (hD).eqc (fun c h1 => es1.1 c (by omega) (by omega))
  have hWs1 : LW S s1 := (hW).eqc (fun c h1 h2 => es1.1 c (by omega) (by omega))
  refine g_pure 2 (i' := 4) (lv' := [some (vR 8), some (vI (nI k)), some (vI (nI n)), some (vI 0), none, none, none, none]) (st' := []) rfl ?_
  exact o1 s1 es1

theorem b_99_4 {X : Nat × (Nat → Int32)} {d : Nat} {p : Nat → Nat} {sg : Mg} {Q : am_R → Prop} {B : Nat} {S : Nat → Int32} (hI : Inv B S) (hL : cwL 250 sg S) (hD : cwD 200 sg S) {k : Nat} {n : Nat} {j : Nat} {z4 : Option AV} {z5 : Option AV} {z6 : Option AV} {z7 : Option AV} (u_k : k ≤ 7) (u_n : n ≤ 60) (u_j : j ≤ 61)
    (o1 : (n < j) → gW X (d + 7) k_99 20 [some (vR 8), some (vI (nI k)), some (vI (nI n)), some (vI (nI j)), z4, z5, z6, z7] [] p sg Q)
    (o2 : (¬ (n < j)) → gW X (d + 7) k_99 17 [some (vR 8), some (vI (nI k)), some (vI (nI n)), some (vI (nI j)), z4, z5, z6, z7] [vI (-1), vR (100 + j)] p sg Q) :
    gW X (d + 7) k_99 4 [some (vR 8), some (vI (nI k)), some (vI (nI n)), some (vI (nI j)), z4, z5, z6, z7] [] p sg Q := by
  have b0 := hI.b0; have b1 := hI.b1; have b2 := hI.b2; have b3 := hI.b3; have b4 := hI.b4; have b5 := hI.b5; have b6 := hI.b6; have b7 := hI.b7; have b8 := hI.b8; have b9 := hI.b9; have b14 := hI.b14
  refine g_pure 2 (i' := 6) (lv' := [some (vR 8), some (vI (nI k)), some (vI (nI n)), some (vI (nI j)), z4, z5, z6, z7]) (st' := [vI (nI n), vI (nI j)]) rfl ?_
  refine g_if2 (i' := 20) (P := n < j) rfl rfl (g_gtN (show nI j = nI j from (rfl : nI j = nI j)) (show nI n = nI n from (rfl : nI n = nI n)) (by omega) (by omega)) (fun h1 => ?_) (fun h1 => ?_)
  · exact o1 h1
  · refine g_pure 3 (i' := 10) (lv' := [some (vR 8), some (vI (nI k)), some (vI (nI n)), some (vI (nI j)), z4, z5, z6, z7]) (st' := [vR 14, vI (nI j)]) rfl ?_
    refine g_len rfl (by decide) (by decide) (g_A (a := 14) (kd := 5) (n := 61) rfl (by decide)) ?_
    refine gW_eq (lv' := [some (vR 8), some (vI (nI k)), some (vI (nI n)), some (vI (nI j)), z4, z5, z6, z7]) (st' := [vI 61, vI (nI j)]) rfl (by rw [(show (nI 61 : Int32) = 61 from rfl)]) rfl ?_
    refine g_if2 (i' := 20) (P := 61 ≤ j) rfl rfl (g_geN (show nI j = nI j from (rfl : nI j = nI j)) (show 61 = nI 61 from (show (61 : Int32) = nI 61 from rfl)) (by omega) (by omega)) (fun h2 => absurd h2 (by omega)) (fun _ => ?_)
    refine g_pure 3 (i' := 15) (lv' := [some (vR 8), some (vI (nI k)), some (vI (nI n)), some (vI (nI j)), z4, z5, z6, z7]) (st' := [vI (nI j), vR 14]) rfl ?_
    refine g_aald rfl (Or.inl rfl) (g_A (a := 14) (kd := 5) (n := 61) rfl (by decide)) (by decide) (show nI j = nI j from (rfl : nI j = nI j)) (by omega) (gR_14 (by omega)) ?_
    refine g_pure 1 (i' := 17) (lv' := [some (vR 8), some (vI (nI k)), some (vI (nI n)), some (vI (nI j)), z4, z5, z6, z7]) (st' := [vI (-1), vR (100 + j)]) rfl ?_
    exact o2 h1

theorem b_99_20 {X : Nat × (Nat → Int32)} {d : Nat} {p : Nat → Nat} {sg : Mg} {Q : am_R → Prop} {B : Nat} {S : Nat → Int32} (hI : Inv B S) (hL : cwL 250 sg S) (hD : cwD 200 sg S) {k : Nat} {n : Nat} {z3 : Option AV} {z4 : Option AV} {z5 : Option AV} {z6 : Option AV} {z7 : Option AV} (u_k : k ≤ 7) (u_n : n ≤ 60) (q1 : k < sn S 1)
    (o1 : gW X (d + 7) k_99 35 [some (vR 8), some (vI (nI k)), some (vI (nI n)), some (vI (nI (stN S k - sn S 8))), z4, z5, z6, z7] [vI 0, vI (nI n), vI (nI (stN S k - sn S 8)), vI (nI (hmN S k)), vR 8] p sg Q) :
    gW X (d + 7) k_99 20 [some (vR 8), some (vI (nI k)), some (vI (nI n)), z3, z4, z5, z6, z7] [] p sg Q := by
  have b0 := hI.b0; have b1 := hI.b1; have b2 := hI.b2; have b3 := hI.b3; have b4 := hI.b4; have b5 := hI.b5; have b6 := hI.b6; have b7 := hI.b7; have b8 := hI.b8; have b9 := hI.b9; have b14 := hI.b14
  refine g_pure 2 (i' := 22) (lv' := [some (vR 8), some (vI (nI k)), some (vI (nI n)), z3, z4, z5, z6, z7]) (st' := [vI (nI k), vR 8]) rfl ?_
  refine g_cV1 rfl (args := [vR 8, vI (nI k)]) (rest := []) rfl rfl rfl (s_86 (d := d + 5) hI hL hD (by omega)) ?_
  have t1 := (hm_ok hI (k := k) (by omega)).2.1
  have t2 := (hm_ok hI (k := k) (by omega)).2.2.1
  refine g_pure 2 (i' := 25) (lv' := [some (vR 8), some (vI (nI k)), some (vI (nI n)), z3, z4, z5, z6, z7]) (st' := [vR 250, vI (nI (stN S k))]) rfl ?_
  refine g_getI rfl (g_A (a := 250) (kd := 0) (n := 6) rfl (by decide)) (show _ = S 8 from hL.f12) ?_
  refine gW_eq (lv' := [some (vR 8), some (vI (nI k)), some (vI (nI n)), z3, z4, z5, z6, z7]) (st' := [vI (nI (sn S 8)), vI (nI (stN S k))]) rfl (by rw [(show S 8 = nI (sn S 8) from (hI.c8))]) rfl ?_
  refine g_pure 5 (i' := 31) (lv' := [some (vR 8), some (vI (nI k)), some (vI (nI n)), some (vI (nI (stN S k) - nI (sn S 8))), z4, z5, z6, z7]) (st' := [vI (nI k), vR 8, vR 8]) rfl ?_
  refine gW_eq (lv' := [some (vR 8), some (vI (nI k)), some (vI (nI n)), some (vI (nI (stN S k - sn S 8))), z4, z5, z6, z7]) (st' := [vI (nI k), vR 8, vR 8]) (by rw [(show (nI (stN S k) - nI (sn S 8)) = nI (stN S k - sn S 8) from (g_sub (rfl : nI (stN S k) = nI (stN S k)) (rfl : nI (sn S 8) = nI (sn S 8)) (by omega)))]) rfl rfl ?_
  refine g_cV1 rfl (args := [vR 8, vI (nI k)]) (rest := [vR 8]) rfl rfl rfl (s_84 (d := d + 5) hI hL hD (by omega)) ?_
  have t3 := (hm_ok hI (k := k) (by omega)).1
  refine g_pure 3 (i' := 35) (lv' := [some (vR 8), some (vI (nI k)), some (vI (nI n)), some (vI (nI (stN S k - sn S 8))), z4, z5, z6, z7]) (st' := [vI 0, vI (nI n), vI (nI (stN S k - sn S 8)), vI (nI (hmN S k)), vR 8]) rfl ?_
  exact o1

theorem b_99_36 {X : Nat × (Nat → Int32)} {d : Nat} {p : Nat → Nat} {sg : Mg} {Q : am_R → Prop} {B : Nat} {S : Nat → Int32} (hI : Inv B S) (hL : cwL 250 sg S) (hD : cwD 200 sg S) {k : Nat} {n : Nat} {f : Nat} {z4 : Option AV} {z5 : Option AV} {z6 : Option AV} {z7 : Option AV} (u_k : k ≤ 7) (u_n : n ≤ 60) (u_f : f ≤ 5)
    (o1 : gW X (d + 7) k_99 42 [some (vR 8), some (vI (nI k)), some (vI (nI n)), some (vI (nI f)), some (vI 0), some (vI (nI (max f 0))), z6, z7] [] p sg Q) :
    gW X (d + 7) k_99 36 [some (vR 8), some (vI (nI k)), some (vI (nI n)), some (vI (nI f)), z4, z5, z6, z7] [] p sg Q := by
  have b0 := hI.b0; have b1 := hI.b1; have b2 := hI.b2; have b3 := hI.b3; have b4 := hI.b4; have b5 := hI.b5; have b6 := hI.b6; have b7 := hI.b7; have b8 := hI.b8; have b9 := hI.b9; have b14 := hI.b14
  refine g_pure 4 (i' := 40) (lv' := [some (vR 8), some (vI (nI k)), some (vI (nI n)), some (vI (nI f)), some (vI 0), z5, z6, z7]) (st' := [vI 0, vI (nI f)]) rfl ?_
  refine gW_eq (st' := [vI (nI 0), vI (nI f)]) rfl (by rw [(show (0 : Int32) = nI 0 from rfl)]) rfl ?_
  refine g_cS1 rfl (args := [vI (nI f), vI (nI 0)]) (rest := []) rfl rfl rfl (s_316n (d := d + 6) (by omega) (by omega)) ?_
  have t1 := Nat.le_max_left f 0
  have t2 := Nat.le_max_right f 0
  refine g_pure 1 (i' := 42) (lv' := [some (vR 8), some (vI (nI k)), some (vI (nI n)), some (vI (nI f)), some (vI 0), some (vI (nI (max f 0))), z6, z7]) (st' := []) rfl ?_
  exact o1

theorem b_99_42 {X : Nat × (Nat → Int32)} {d : Nat} {p : Nat → Nat} {sg : Mg} {Q : am_R → Prop} {B : Nat} {S : Nat → Int32} (hI : Inv B S) (hL : cwL 250 sg S) (hD : cwD 200 sg S) {k : Nat} {n : Nat} {z3 : Option AV} {b : Nat} {t : Nat} {z6 : Option AV} {z7 : Option AV} (u_k : k ≤ 7) (u_n : n ≤ 60) (u_b : b ≤ 60) (u_t : t ≤ 61)
    (o1 : (n < t) → Q (gRv p sg (nI b)))
    (o2 : (¬ (n < t)) → gW X (d + 7) k_99 47 [some (vR 8), some (vI (nI k)), some (vI (nI n)), z3, some (vI (nI b)), some (vI (nI t)), some (vI 0), z7] [] p sg Q) :
    gW X (d + 7) k_99 42 [some (vR 8), some (vI (nI k)), some (vI (nI n)), z3, some (vI (nI b)), some (vI (nI t)), z6, z7] [] p sg Q := by
  have b0 := hI.b0; have b1 := hI.b1; have b2 := hI.b2; have b3 := hI.b3; have b4 := hI.b4; have b5 := hI.b5; have b6 := hI.b6; have b7 := hI.b7; have b8 := hI.b8; have b9 := hI.b9; have b14 := hI.b14
  refine g_pure 2 (i' := 44) (lv' := [some (vR 8), some (vI (nI k)), some (vI (nI n)), z3, some (vI (nI b)), some (vI (nI t)), z6, z7]) (st' := [vI (nI n), vI (nI t)]) rfl ?_
  refine g_if2 (i' := 78) (P := n < t) rfl rfl (g_gtN (show nI t = nI t from (rfl : nI t = nI t)) (show nI n = nI n from (rfl : nI n = nI n)) (by omega) (by omega)) (fun h1 => ?_) (fun h1 => ?_)
  · refine g_pure 1 (i' := 79) (lv' := [some (vR 8), some (vI (nI k)), some (vI (nI n)), z3, some (vI (nI b)), some (vI (nI t)), z6, z7]) (st' := [vI (nI b)]) rfl ?_
    refine g_iret rfl ?_
    exact o1 h1
  · refine g_pure 2 (i' := 47) (lv' := [some (vR 8), some (vI (nI k)), some (vI (nI n)), z3, some (vI (nI b)), some (vI (nI t)), some (vI 0), z7]) (st' := []) rfl ?_
    exact o2 h1

theorem b_99_47 {X : Nat × (Nat → Int32)} {d : Nat} {p : Nat → Nat} {sg : Mg} {Q : am_R → Prop} {B : Nat} {S : Nat → Int32} (hI : Inv B S) (hL : cwL 250 sg S) (hD : cwD 200 sg S) {m : Nat} {k : Nat} {n : Nat} {z3 : Option AV} {b : Nat} {t : Nat} {j : Nat} {z7 : Option AV} (u_k : k ≤ 7) (u_n : n ≤ 60) (u_b : b ≤ 60) (u_t : t ≤ 60) (u_j : j ≤ 5) (q1 : m ≤ 60) (q2 : j < sn S 0) (hx : sg (100 + t) j = nI m)
    (o1 : gW X (d + 7) k_99 73 [some (vR 8), some (vI (nI k)), some (vI (nI n)), z3, some (vI (nI (max b m))), some (vI (nI t)), some (vI (nI j)), some (vI (nI m))] [vI (nI n), vI (nI t), vI (nI j), vI (nI k), vR 8] p sg Q) :
    gW X (d + 7) k_99 47 [some (vR 8), some (vI (nI k)), some (vI (nI n)), z3, some (vI (nI b)), some (vI (nI t)), some (vI (nI j)), z7] [] p sg Q := by
  have b0 := hI.b0; have b1 := hI.b1; have b2 := hI.b2; have b3 := hI.b3; have b4 := hI.b4; have b5 := hI.b5; have b6 := hI.b6; have b7 := hI.b7; have b8 := hI.b8; have b9 := hI.b9; have b14 := hI.b14
  refine g_pure 5 (i' := 52) (lv' := [some (vR 8), some (vI (nI k)), some (vI (nI n)), z3, some (vI (nI b)), some (vI (nI t)), some (vI (nI j)), z7]) (st' := [vI 0, vR 203, vI (nI j)]) rfl ?_
  refine g_ald rfl (g_A (a := 203) (kd := 1) (n := 6) rfl (by decide)) (by decide) (show 0 = nI 0 from (show (0 : Int32) = nI 0 from rfl)) (by decide) (show _ = S 0 from (hD.cnt (by decide))) ?_
  refine g_if2 (i' := 76) (P := sn S 0 ≤ j) rfl rfl (g_geN (show nI j = nI j from (rfl : nI j = nI j)) (show S 0 = nI (sn S 0) from (hI.c0)) (by omega) (by omega)) (fun h1 => absurd h1 (by omega)) (fun _ => ?_)
  refine g_pure 3 (i' := 57) (lv' := [some (vR 8), some (vI (nI k)), some (vI (nI n)), z3, some (vI (nI b)), some (vI (nI t)), some (vI (nI j)), z7]) (st' := [vI (nI t), vR 14]) rfl ?_
  refine g_aald rfl (Or.inl rfl) (g_A (a := 14) (kd := 5) (n := 61) rfl (by decide)) (by decide) (show nI t = nI t from (rfl : nI t = nI t)) (by omega) (gR_14 (by omega)) ?_
  refine g_pure 1 (i' := 59) (lv' := [some (vR 8), some (vI (nI k)), some (vI (nI n)), z3, some (vI (nI b)), some (vI (nI t)), some (vI (nI j)), z7]) (st' := [vI (nI j), vR (100 + t)]) rfl ?_
  refine g_ald rfl (gA_14 (by omega)) (by decide) (show nI j = nI j from (rfl : nI j = nI j)) (by omega) (show _ = nI m from hx) ?_
  refine g_pure 3 (i' := 63) (lv' := [some (vR 8), some (vI (nI k)), some (vI (nI n)), z3, some (vI (nI b)), some (vI (nI t)), some (vI (nI j)), some (vI (nI m))]) (st' := [vI (-1), vI (nI m)]) rfl ?_
  refine g_if2 (i' := 74) (P := nI m = (-1)) rfl rfl Iff.rfl (fun h2 => absurd h2 (nI_m1 (by omega))) (fun _ => ?_)
  refine g_pure 2 (i' := 66) (lv' := [some (vR 8), some (vI (nI k)), some (vI (nI n)), z3, some (vI (nI b)), some (vI (nI t)), some (vI (nI j)), some (vI (nI m))]) (st' := [vI (nI m), vI (nI b)]) rfl ?_
  refine g_cS1 rfl (args := [vI (nI b), vI (nI m)]) (rest := []) rfl rfl rfl (s_316n (d := d + 6) (by omega) (by omega)) ?_
  have t3 := Nat.le_max_left b m
  have t4 := Nat.le_max_right b m
  refine g_pure 6 (i' := 73) (lv' := [some (vR 8), some (vI (nI k)), some (vI (nI n)), z3, some (vI (nI (max b m))), some (vI (nI t)), some (vI (nI j)), some (vI (nI m))]) (st' := [vI (nI n), vI (nI t), vI (nI j), vI (nI k), vR 8]) rfl ?_
  exact o1

theorem b_99_47x {X : Nat × (Nat → Int32)} {d : Nat} {p : Nat → Nat} {sg : Mg} {Q : am_R → Prop} {B : Nat} {S : Nat → Int32} (hI : Inv B S) (hL : cwL 250 sg S) (hD : cwD 200 sg S) {k : Nat} {n : Nat} {z3 : Option AV} {b : Nat} {t : Nat} {j : Nat} {z7 : Option AV} (u_k : k ≤ 7) (u_n : n ≤ 60) (u_b : b ≤ 60) (u_t : t ≤ 60) (u_j : j ≤ 5) (q1 : j < sn S 0) (hx : sg (100 + t) j = -1)
    (o1 : gW X (d + 7) k_99 47 [some (vR 8), some (vI (nI k)), some (vI (nI n)), z3, some (vI (nI b)), some (vI (nI t)), some (vI (nI (j + 1))), some (vI (-1))] [] p sg Q) :
    gW X (d + 7) k_99 47 [some (vR 8), some (vI (nI k)), some (vI (nI n)), z3, some (vI (nI b)), some (vI (nI t)), some (vI (nI j)), z7] [] p sg Q := by
  have b0 := hI.b0; have b1 := hI.b1; have b2 := hI.b2; have b3 := hI.b3; have b4 := hI.b4; have b5 := hI.b5; have b6 := hI.b6; have b7 := hI.b7; have b8 := hI.b8; have b9 := hI.b9; have b14 := hI.b14
  refine g_pure 5 (i' := 52) (lv' := [some (vR 8), some (vI (nI k)), some (vI (nI n)), z3, some (vI (nI b)), some (vI (nI t)), some (vI (nI j)), z7]) (st' := [vI 0, vR 203, vI (nI j)]) rfl ?_
  refine g_ald rfl (g_A (a := 203) (kd := 1) (n := 6) rfl (by decide)) (by decide) (show 0 = nI 0 from (show (0 : Int32) = nI 0 from rfl)) (by decide) (show _ = S 0 from (hD.cnt (by decide))) ?_
  refine g_if2 (i' := 76) (P := sn S 0 ≤ j) rfl rfl (g_geN (show nI j = nI j from (rfl : nI j = nI j)) (show S 0 = nI (sn S 0) from (hI.c0)) (by omega) (by omega)) (fun h1 => absurd h1 (by omega)) (fun _ => ?_)
  refine g_pure 3 (i' := 57) (lv' := [some (vR 8), some (vI (nI k)), some (vI (nI n)), z3, some (vI (nI b)), some (vI (nI t)), some (vI (nI j)), z7]) (st' := [vI (nI t), vR 14]) rfl ?_
  refine g_aald rfl (Or.inl rfl) (g_A (a := 14) (kd := 5) (n := 61) rfl (by decide)) (by decide) (show nI t = nI t from (rfl : nI t = nI t)) (by omega) (gR_14 (by omega)) ?_
  refine g_pure 1 (i' := 59) (lv' := [some (vR 8), some (vI (nI k)), some (vI (nI n)), z3, some (vI (nI b)), some (vI (nI t)), some (vI (nI j)), z7]) (st' := [vI (nI j), vR (100 + t)]) rfl ?_
  refine g_ald rfl (gA_14 (by omega)) (by decide) (show nI j = nI j from (rfl : nI j = nI j)) (by omega) (show _ = (-1) from hx) ?_
  refine g_pure 3 (i' := 63) (lv' := [some (vR 8), some (vI (nI k)), some (vI (nI n)), z3, some (vI (nI b)), some (vI (nI t)), some (vI (nI j)), some (vI (-1))]) (st' := [vI (-1), vI (-1)]) rfl ?_
  refine g_if2 (i' := 74) (P := ((-1) : Int32) = (-1)) rfl rfl Iff.rfl (fun _ => ?_) (fun h2 => absurd (by decide) h2)
  refine g_pure 2 (i' := 47) (lv' := [some (vR 8), some (vI (nI k)), some (vI (nI n)), z3, some (vI (nI b)), some (vI (nI t)), some (vI (nI j + 1)), some (vI (-1))]) (st' := []) rfl ?_
  refine gW_eq (lv' := [some (vR 8), some (vI (nI k)), some (vI (nI n)), z3, some (vI (nI b)), some (vI (nI t)), some (vI (nI (j + 1))), some (vI (-1))]) (st' := []) (by rw [(show (nI j + 1) = nI (j + 1) from ((g_add (rfl : nI j = nI j) (show (1 : Int32) = nI 1 from rfl))).trans (congrArg nI (by omega)))]) rfl rfl ?_
  exact o1

theorem b_99_47e {X : Nat × (Nat → Int32)} {d : Nat} {p : Nat → Nat} {sg : Mg} {Q : am_R → Prop} {B : Nat} {S : Nat → Int32} (hI : Inv B S) (hL : cwL 250 sg S) (hD : cwD 200 sg S) {k : Nat} {n : Nat} {z3 : Option AV} {b : Nat} {t : Nat} {z7 : Option AV} (u_k : k ≤ 7) (u_n : n ≤ 60) (u_b : b ≤ 60) (u_t : t ≤ 60) (u_snS0 : sn S 0 ≤ 6)
    (o1 : gW X (d + 7) k_99 42 [some (vR 8), some (vI (nI k)), some (vI (nI n)), z3, some (vI (nI b)), some (vI (nI (t + 1))), some (vI (nI (sn S 0))), z7] [] p sg Q) :
    gW X (d + 7) k_99 47 [some (vR 8), some (vI (nI k)), some (vI (nI n)), z3, some (vI (nI b)), some (vI (nI t)), some (vI (nI (sn S 0))), z7] [] p sg Q := by
  have b0 := hI.b0; have b1 := hI.b1; have b2 := hI.b2; have b3 := hI.b3; have b4 := hI.b4; have b5 := hI.b5; have b6 := hI.b6; have b7 := hI.b7; have b8 := hI.b8; have b9 := hI.b9; have b14 := hI.b14
  refine g_pure 5 (i' := 52) (lv' := [some (vR 8), some (vI (nI k)), some (vI (nI n)), z3, some (vI (nI b)), some (vI (nI t)), some (vI (nI (sn S 0))), z7]) (st' := [vI 0, vR 203, vI (nI (sn S 0))]) rfl ?_
  refine g_ald rfl (g_A (a := 203) (kd := 1) (n := 6) rfl (by decide)) (by decide) (show 0 = nI 0 from (show (0 : Int32) = nI 0 from rfl)) (by decide) (show _ = S 0 from (hD.cnt (by decide))) ?_
  refine g_if2 (i' := 76) (P := sn S 0 ≤ sn S 0) rfl rfl (g_geN (show nI (sn S 0) = nI (sn S 0) from (rfl : nI (sn S 0) = nI (sn S 0))) (show S 0 = nI (sn S 0) from (hI.c0)) (by omega) (by omega)) (fun _ => ?_) (fun h1 => absurd (Nat.le_refl _) h1)
  refine g_pure 2 (i' := 42) (lv' := [some (vR 8), some (vI (nI k)), some (vI (nI n)), z3, some (vI (nI b)), some (vI (nI t + 1)), some (vI (nI (sn S 0))), z7]) (st' := []) rfl ?_
  refine gW_eq (lv' := [some (vR 8), some (vI (nI k)), some (vI (nI n)), z3, some (vI (nI b)), some (vI (nI (t + 1))), some (vI (nI (sn S 0))), z7]) (st' := []) (by rw [(show (nI t + 1) = nI (t + 1) from ((g_add (rfl : nI t = nI t) (show (1 : Int32) = nI 1 from rfl))).trans (congrArg nI (by omega)))]) rfl rfl ?_
  exact o1

theorem b_175_0 {X : Nat × (Nat → Int32)} {d : Nat} {p : Nat → Nat} {sg : Mg} {Q : am_R → Prop} {B : Nat} {S : Nat → Int32} (hI : Inv B S) (hL : cwL 250 sg S) (hD : cwD 200 sg S) {x : Int32} {y : Int32}
    (o1 : ∀ n2 : Nat, x = nI n2 → n2 < sn S 1 → ∀ n4 : Nat, y = nI n4 → 1 ≤ n4 ∧ n4 ≤ 60 → gW X (d + 8) k_175 8 [some (vR 0), some (vI (nI n2)), some (vI (nI n4))] [] p sg Q)
    (o2 : ∀ n2 : Nat, x = nI n2 → n2 < sn S 1 → (¬ (¬ (y < 1) ∧ ¬ (60 < y))) → Q (gRx p sg 0))
    (o3 : (¬ okx x (sn S 1)) → Q (gRx p sg 2)) :
    gW X (d + 8) k_175 0 [some (vR 0), some (vI x), some (vI y)] [] p sg Q := by
  have b0 := hI.b0; have b1 := hI.b1; have b2 := hI.b2; have b3 := hI.b3; have b4 := hI.b4; have b5 := hI.b5; have b6 := hI.b6; have b7 := hI.b7; have b8 := hI.b8; have b9 := hI.b9; have b14 := hI.b14
  refine g_pure 3 (i' := 3) (lv' := [some (vR 0), some (vI x), some (vI y)]) (st' := [vI x, vI 1, vR 0]) rfl ?_
  by_cases h1 : okx x (sn S 1)
  · obtain ⟨n2, ln2, en2⟩ := okx_of h1
    subst en2
    refine gW_eq (st' := [vI (nI n2), vI (nI 1), vR 0]) rfl (by rw [(show (1 : Int32) = nI 1 from rfl)]) rfl ?_
    refine g_cV0 rfl (args := [vR 0, vI (nI 1), vI (nI n2)]) (rest := []) rfl rfl rfl (s_140o (d := d + 6) hI hL hD (by omega) ((okx_nI (by omega)).mpr (by omega))) ?_
    refine g_pure 3 (i' := 7) (lv' := [some (vR 0), some (vI (nI n2)), some (vI y)]) (st' := [vI 60, vI 1, vI y]) rfl ?_
    by_cases h3 : (¬ (y < 1) ∧ ¬ (60 < y))
    · obtain ⟨n4, ln4, en4⟩ := okr_of (lo := 1) (hi := 60) (by decide) h3
      subst en4
      refine g_cS0 rfl (args := [vI (nI n4), vI 1, vI 60]) (rest := []) rfl rfl rfl (s_141o (d := d + 7) (nI_nlt (b := 1) (by omega) (by omega)) (nI_nlt (a := 60) (by omega) (by omega))) ?_
      exact o1 n2 rfl ln2 n4 rfl ln4
    · refine g_cSx rfl (args := [vI y, vI 1, vI 60]) (rest := []) rfl rfl rfl (s_141x (d := d + 7) (by assumption)) ?_
      exact o2 n2 rfl ln2 h3
  · refine gW_eq (st' := [vI x, vI (nI 1), vR 0]) rfl (by rw [(show (1 : Int32) = nI 1 from rfl)]) rfl ?_
    refine g_cVx rfl (args := [vR 0, vI (nI 1), vI x]) (rest := []) rfl rfl rfl (s_140x (d := d + 6) hI hL hD (by omega) (by assumption)) ?_
    exact o3 h1

/-- what feasting may write -/
def FY (sg s : Mg) : Prop := ∀ c, c ≠ 9 → (c < 100 ∨ 160 < c) → c ≠ 201 → c ≠ 213 → s c = sg c
theorem FY.rf (sg : Mg) : FY sg sg := fun _ _ _ _ _ => rfl
theorem FY.tr {a b c : Mg} (h : FY a b) (g : FY b c) : FY a c := fun x h1 h2 h3 h4 => (g x h1 h2 h3 h4).trans (h x h1 h2 h3 h4)
theorem FY.ff {a b : Mg} (h : FF a b) : FY a b := fun x _ h2 _ _ => h x h2
theorem FY.wf {a b : Mg} (h : WF a b) : FY a b := fun x h1 _ h3 h4 => h x h1 h3 h4
theorem FY.wy {a b : Mg} (h : FY a b) : WY a b := fun x h1 h2 h3 h4 => h x (by omega) (by omega) h3 h4
theorem FY.L {sg s : Mg} {S : Nat → Int32} (h : FY sg s) (hL : cwL 250 sg S) : cwL 250 s S := h.wy.L hL
theorem FY.D {sg s : Mg} {S : Nat → Int32} (h : FY sg s) (hD : cwD 200 sg S) : cwD 200 s S := h.wy.D hD
theorem FY.W {sg s : Mg} {S : Nat → Int32} (h : FY sg s) (hW : LW S sg) : LW S s := h.wy.W hW
theorem bOK.ff {S : Nat → Int32} {a b : Mg} (h : bOK S a) (f : FF a b) : bOK S b := h.eq (f 8 (by omega)) (f 9 (by omega))
theorem s_101 {X : Nat × (Nat → Int32)} {d : Nat} {p : Nat → Nat} {sg : Mg} {B : Nat} {S : Nat → Int32} (hI : Inv B S) (hL : cwL 250 sg S) (hD : cwD 200 sg S) (hW : LW S sg) (hB : bOK S sg) {k v t n : Nat} {G : Nat → Nat} (hk : k < sn S 1) (hv : v < sn S 0) (ht : t ≤ n) (hn : n ≤ 60) (hM : fcM n sg G) (hg : gB G) (h0 : ¬ G (6 * t + v) = 0) : gF X (d + 7) 101 [vR 8, vI (nI k), vI (nI v), vI (nI t), vI (nI n)] p sg (fun r => ∃ s, (FY sg s ∧ bOK S s ∧ fcM n s (ceG S k G t v)) ∧ r = gR0 p s) := by
  have b0 := hI.b0; have b1 := hI.b1; have b3 := hI.b3; have b8 := hI.b8
  have hG := hg t v (by omega)
  have hx : sg (100 + t) v = nI (G (6 * t + v) - 1) := by rw [hM t v ht (by omega)]; exact nI_sub (b := 1) (by omega)
  have hg1 : gB (rF S G (t + 1) v (G (6 * t + v) - 1)) := hg.rF (by omega) (by have := (feN_le (S := S) (t := t + 1) (v := v)).1; omega)
  refine g_in (cd := k_101) (nL := 8) (rc := 10) rfl (g_A (a := 8) (kd := 0) (n := 9) rfl (by decide)) (g_c1 rfl) (b_101_0 hI hL hD (by omega) (by omega) (by omega) hn (by omega) hx ?_)
  unfold ceG
  generalize hbb : G (6 * t + v) - 1 = b at hx hg1
  have hb : b ≤ t := by omega
  refine g_cV0E rfl (args := [vR 8, vI (nI v), vI (nI (t + 1)), vI (nI n), vI (nI b)]) (rest := []) rfl rfl rfl (s_100 (d := d) hI hL hD (by omega) (by omega) hn (by omega) hM hg) (fun s1 h1 => ?_)
  obtain ⟨f1, m1⟩ := h1
  have w1 := FY.ff f1
  have hB1 := hB.ff f1
  have rest : n ≤ t → ∃ s, (FY sg s ∧ bOK S s ∧ fcM n s (if bd S k v (sn S 8 + t) = true then rF S G (t + 1) v b else rdG S t v b (sn S 3) (rF S G (t + 1) v b))) ∧ gR0 p s1 = gR0 p s := fun h => by
    refine ⟨s1, ⟨w1, hB1, ?_⟩, rfl⟩
    split
    · exact m1
    · exact m1.laters hI h _ (Nat.le_refl _)
  refine b_101_15 hI (w1.L hL) (w1.D hD) (w1.W hW) hB1 (by omega) (by omega) (by omega) hn (by omega) hk hv rest (fun h s2 h2 h3 => ?_) (fun h s2 h2 h3 => ?_)
  · rw [if_pos h3]
    exact ⟨s2, ⟨w1.tr (FY.wf h2.1), h2.2, m1.eq hn (fun c c1 c2 => h2.1 c (by omega) (by omega) (by omega))⟩, rfl⟩
  · rw [if_neg h3]
    have key := g_upI (P := fun j => ∀ s z7, FY sg s → bOK S s → fcM n s (rdG S t v b j (rF S G (t + 1) v b)) → gW X (d + 6) k_101 30 [some (vR 8), some (vI (nI k)), some (vI (nI v)), some (vI (nI t)), some (vI (nI n)), some (vI (nI b)), some (vI (nI j)), z7] [] p s (fun r => ∃ s, (FY sg s ∧ bOK S s ∧ fcM n s (rdG S t v b (sn S 3) (rF S G (t + 1) v b))) ∧ r = gR0 p s)) (I := fun _ => True) (n := sn S 3) (a := 0) (by omega) trivial ?_ ?_
    · exact key s2 none (w1.tr (FY.wf h2.1)) h2.2 (m1.eq hn (fun c c1 c2 => h2.1 c (by omega) (by omega) (by omega)))
    · intro j _ hj _ ih s z7 hs hB hM
      have ih := ih trivial
      have hl := (hI.roa hj).2.2.1.2
      have hu := otN_lt hI hj v
      have hgj := hg1.rd hI (v := v) hb j (by omega)
      have e : rdG S t v b (j + 1) (rF S G (t + 1) v b) = if (sn S (177 + 3 * j) = v ∨ sn S (177 + 3 * j + 1) = v) then rF S (rdG S t v b j (rF S G (t + 1) v b)) (t + sn S (177 + 3 * j + 2)) (otN S j v) b else rdG S t v b j (rF S G (t + 1) v b) := rfl
      rw [e] at ih
      refine b_101_30 hI (hs.L hL) (hs.D hD) (by omega) (by omega) (by omega) hn (by omega) (by omega) hv (fun h => by omega) (fun _ ho h => absurd h (nI_m1 (by omega))) (fun _ ho _ => ?_) (fun _ ho => ?_)
      · rw [if_pos (show sn S (177 + 3 * j) = v ∨ sn S (177 + 3 * j + 1) = v from ho)] at ih
        refine b_101_46 hI (hs.L hL) (hs.D hD) (by omega) (by omega) (by omega) hn (by omega) (by omega) (by omega) hj ?_
        refine g_cV0E rfl (args := [vR 8, vI (nI (otN S j v)), vI (nI (t + sn S (177 + 3 * j + 2))), vI (nI n), vI (nI b)]) (rest := []) rfl rfl rfl (s_100 (d := d) hI (hs.L hL) (hs.D hD) (by omega) (by omega) hn (by omega) hM hgj) (fun s4 h4 => ?_)
        refine g_pure 2 (i' := 30) (lv' := [some (vR 8), some (vI (nI k)), some (vI (nI v)), some (vI (nI t)), some (vI (nI n)), some (vI (nI b)), some (vI (nI j + 1)), some (vI (nI (otN S j v)))]) (st' := []) rfl ?_
        refine gW_eq (lv' := [some (vR 8), some (vI (nI k)), some (vI (nI v)), some (vI (nI t)), some (vI (nI n)), some (vI (nI b)), some (vI (nI (j + 1))), some (vI (nI (otN S j v)))]) (by rw [nI_succ]) rfl rfl ?_
        exact ih _ _ (hs.tr (FY.ff h4.1)) (hB.ff h4.1) h4.2
      · rw [if_neg (show ¬ (sn S (177 + 3 * j) = v ∨ sn S (177 + 3 * j + 1) = v) from ho)] at ih
        exact ih _ _ hs hB hM
    · intro _ s z7 hs hB hM
      exact b_101_30 hI (hs.L hL) (hs.D hD) (by omega) (by omega) (by omega) hn (by omega) (by omega) hv (fun _ => ⟨s, ⟨hs, hB, hM⟩, rfl⟩) (fun h => by omega) (fun h => by omega) (fun h => by omega)
def fedV (S : Nat → Int32) (k n : Nat) : Nat := (feT S k (feZ S k n) (n + 1)).2
theorem s_99 {X : Nat × (Nat → Int32)} {d : Nat} {p : Nat → Nat} {sg : Mg} {B : Nat} {S : Nat → Int32} (hI : Inv B S) (hL : cwL 250 sg S) (hD : cwD 200 sg S) (hW : LW S sg) {k n : Nat} (hk : k < sn S 1) (hn : n ≤ 60) : gF X (d + 8) 99 [vR 8, vI (nI k), vI (nI n)] p sg (fun r => ∃ s, WY sg s ∧ r = gRv p s (nI (fedV S k n))) := by
  have b0 := hI.b0; have b1 := hI.b1; have b8 := hI.b8
  obtain ⟨k1, k2, k3, _, _⟩ := hm_ok hI hk
  obtain ⟨z1, z2⟩ := feZ_ok (S := S) (k := k) (n := n) (by omega)
  refine g_in (cd := k_99) (nL := 8) (rc := 10) rfl (g_A (a := 8) (kd := 0) (n := 9) rfl (by decide)) (g_c1 rfl) (b_99_0 hI hL hD hW (by omega) hn (fun s1 h1 => ?_))
  have key := g_upI (P := fun j => ∀ s, WY sg s → bOK S s → (∀ t v, t < j → v < 6 → s (100 + t) v = -1) → gW X (d + 7) k_99 4 [some (vR 8), some (vI (nI k)), some (vI (nI n)), some (vI (nI j)), none, none, none, none] [] p s (fun r => ∃ s, WY sg s ∧ r = gRv p s (nI (fedV S k n)))) (I := fun _ => True) (n := n + 1) (a := 0) (by omega) trivial ?_ ?_
  · exact key s1 (WY.bg h1) h1.2 (fun t v ht => absurd ht (Nat.not_lt_zero _))
  · intro j _ hj _ ih s hs hB hz
    refine b_99_4 hI (hs.L hL) (hs.D hD) (by omega) hn (by omega) (fun h => by omega) (fun _ => ?_)
    refine g_calS rfl (args := [vR (100 + j), vI (-1)]) (rest := []) rfl rfl (Nat.zero_le _) (s_318 (d := d + 6) (gA_14 (by omega)) (by omega)) (fun q hq => ?_)
    obtain ⟨s2, g2, rfl⟩ := hq
    refine gK_0 ?_
    refine g_pure 2 (i' := 4) (lv' := [some (vR 8), some (vI (nI k)), some (vI (nI n)), some (vI (nI j + 1)), none, none, none, none]) (st' := []) rfl ?_
    refine gW_eq (lv' := [some (vR 8), some (vI (nI k)), some (vI (nI n)), some (vI (nI (j + 1))), none, none, none, none]) (by rw [nI_succ]) rfl rfl ?_
    refine ih trivial s2 (hs.tr (fun c _ c2 _ _ => g2.1 c (by omega))) (hB.eq (g2.1 8 (by omega)) (g2.1 9 (by omega))) (fun t v ht hv => ?_)
    by_cases e : t = j
    · subst e; exact g2.2 v hv
    · rw [g2.1 _ (by omega)]; exact hz t v (by omega) hv
  · intro _ s hs hB hz
    have hM0 : fcM n s (fun _ => 0) := fun t v ht hv => hz t v (by omega) hv
    refine b_99_4 hI (hs.L hL) (hs.D hD) (by omega) hn (by omega) (fun _ => ?_) (fun h => by omega)
    refine b_99_20 hI (hs.L hL) (hs.D hD) (by omega) hn hk ?_
    refine gW_eq (st' := [vI (nI 0), vI (nI n), vI (nI (stN S k - sn S 8)), vI (nI (hmN S k)), vR 8]) rfl rfl rfl ?_
    refine g_cV0E rfl (args := [vR 8, vI (nI (hmN S k)), vI (nI (stN S k - sn S 8)), vI (nI n), vI (nI 0)]) (rest := []) rfl rfl rfl (s_100 (d := d + 1) hI (hs.L hL) (hs.D hD) (by omega) (by omega) hn (by omega) hM0 (fun _ _ _ => Nat.zero_le _)) (fun s3 h3 => ?_)
    have w3 := hs.tr (FY.ff h3.1).wy
    have hB3 := hB.ff h3.1
    have hMZ : fcM n s3 (feZ S k n).1 := by
      unfold feZ
      split
      · exact h3.2
      · rename_i c
        intro t v ht hv
        have := h3.2 t v ht hv
        unfold rF at this
        rw [if_neg (by omega)] at this
        exact this
    refine b_99_36 hI (w3.L hL) (w3.D hD) (by omega) hn (by omega) ?_
    rw [Nat.max_eq_left (Nat.zero_le _)]
    have sk := feT_skip hI (k := k) (n := n) (show hmN S k < 6 by omega)
    by_cases hfn : stN S k - sn S 8 ≤ n
    · have key := g_upI (P := fun t => ∀ s z6 z7, WY sg s → bOK S s → fcM n s (feT S k (feZ S k n) t).1 → gW X (d + 7) k_99 42 [some (vR 8), some (vI (nI k)), some (vI (nI n)), some (vI (nI (stN S k - sn S 8))), some (vI (nI (feT S k (feZ S k n) t).2)), some (vI (nI t)), z6, z7] [] p s (fun r => ∃ s, WY sg s ∧ r = gRv p s (nI (fedV S k n)))) (I := fun _ => True) (n := n + 1) (a := stN S k - sn S 8) (by omega) trivial ?_ ?_
      · have := key s3 none none w3 hB3 (by rw [sk _ (Or.inl (Nat.le_refl _))]; exact hMZ)
        rw [sk _ (Or.inl (Nat.le_refl _)), z2] at this
        exact this
      · intro t ht1 ht2 _ ih s z6 z7 hs hB hM
        have ih := ih trivial
        obtain ⟨t1, t2⟩ := feT_ok hI (k := k) z1 z2 t
        refine b_99_42 hI (hs.L hL) (hs.D hD) (by omega) hn (by omega) (by omega) (fun h => by omega) (fun _ => ?_)
        have t2 : (feT S k (feZ S k n) t).2 ≤ t := by omega
        rw [show feT S k (feZ S k n) (t + 1) = feV S k t (feT S k (feZ S k n) t) (sn S 0) from rfl] at ih
        generalize feT S k (feZ S k n) t = Z at hM t1 t2 ih
        have key2 := g_upI (P := fun j => ∀ s z7, WY sg s → bOK S s → fcM n s (feV S k t Z j).1 → gW X (d + 7) k_99 47 [some (vR 8), some (vI (nI k)), some (vI (nI n)), some (vI (nI (stN S k - sn S 8))), some (vI (nI (feV S k t Z j).2)), some (vI (nI t)), some (vI (nI j)), z7] [] p s (fun r => ∃ s, WY sg s ∧ r = gRv p s (nI (fedV S k n)))) (I := fun _ => True) (n := sn S 0) (a := 0) (by omega) trivial ?_ ?_
        · exact key2 s z7 hs hB hM
        · intro j _ hj _ ih2 s z7 hs hB hM
          have ih2 := ih2 trivial
          obtain ⟨v1, v2⟩ := feV_ok hI (k := k) t1 t2 j (by omega)
          have hG := v1 t j (by omega)
          have e : feV S k t Z (j + 1) = if (feV S k t Z j).1 (6 * t + j) = 0 then feV S k t Z j else (ceG S k (feV S k t Z j).1 t j, max (feV S k t Z j).2 ((feV S k t Z j).1 (6 * t + j) - 1)) := rfl
          rw [e] at ih2
          have hx := hM t j (by omega) (by omega)
          by_cases c : (feV S k t Z j).1 (6 * t + j) = 0
          · rw [if_pos c] at ih2
            rw [c] at hx
            exact b_99_47x hI (hs.L hL) (hs.D hD) (by omega) hn (by omega) (by omega) (by omega) hj hx (ih2 _ _ hs hB hM)
          · rw [if_neg c] at ih2
            rw [show (1 : Int32) = nI 1 from rfl, nI_sub (by omega)] at hx
            refine b_99_47 hI (hs.L hL) (hs.D hD) (by omega) hn (by omega) (by omega) (by omega) (by omega) hj hx ?_
            refine g_cV0E rfl (args := [vR 8, vI (nI k), vI (nI j), vI (nI t), vI (nI n)]) (rest := []) rfl rfl rfl (s_101 (d := d) hI (hs.L hL) (hs.D hD) (hs.W hW) hB hk hj (by omega) hn hM v1 c) (fun s5 h5 => ?_)
            refine g_pure 2 (i' := 47) (lv' := [some (vR 8), some (vI (nI k)), some (vI (nI n)), some (vI (nI (stN S k - sn S 8))), some (vI (nI (max (feV S k t Z j).2 ((feV S k t Z j).1 (6 * t + j) - 1)))), some (vI (nI t)), some (vI (nI j + 1)), some (vI (nI ((feV S k t Z j).1 (6 * t + j) - 1)))]) (st' := []) rfl ?_
            refine gW_eq (lv' := [some (vR 8), some (vI (nI k)), some (vI (nI n)), some (vI (nI (stN S k - sn S 8))), some (vI (nI (max (feV S k t Z j).2 ((feV S k t Z j).1 (6 * t + j) - 1)))), some (vI (nI t)), some (vI (nI (j + 1))), some (vI (nI ((feV S k t Z j).1 (6 * t + j) - 1)))]) (by rw [nI_succ]) rfl rfl ?_
            exact ih2 _ _ (hs.tr h5.1.wy) h5.2.1 h5.2.2
        · intro _ s z7 hs hB hM
          obtain ⟨v1, v2⟩ := feV_ok hI (k := k) t1 t2 _ (Nat.le_refl _)
          exact b_99_47e hI (hs.L hL) (hs.D hD) (by omega) hn (by omega) (by omega) (by omega) (ih _ _ _ hs hB hM)
      · intro _ s z6 z7 hs hB hM
        obtain ⟨t1, t2⟩ := feT_ok hI (k := k) z1 z2 (n + 1)
        exact b_99_42 hI (hs.L hL) (hs.D hD) (by omega) hn (by omega) (by omega) (fun _ => ⟨s, hs, rfl⟩) (fun h => by omega)
    · refine b_99_42 hI (w3.L hL) (w3.D hD) (by omega) hn (show 0 ≤ 60 by omega) (by omega) (fun _ => ⟨s3, w3, ?_⟩) (fun h => by omega)
      unfold fedV
      rw [sk _ (Or.inr (by omega)), z2]

def feastedR (S : Nat → Int32) (x y : Int32) : Nat × Int32 := if okx x (sn S 1) then (if okr y 1 60 then (0, nI (fedV S x.toNatClampNeg y.toNatClampNeg)) else (2, 0)) else (1, 0)
theorem c_feasted {X : Nat × (Nat → Int32)} {d : Nat} {p : Nat → Nat} {sg : Mg} {B : Nat} {A : AS} (hI : RI B A) (hR : RC A p sg) {x y : Int32} : gF X (d + 9) 175 [vR 0, vI x, vI y] p sg (cR A A (fun c => if c = 1 then 2 else 0) (feastedR A.S x y) sg) := by
  have b1 := hI.1.b1
  refine g_in (cd := k_175) (nL := 3) (rc := 12) rfl (g_A (a := 0) (kd := 0) (n := 11) rfl (by decide)) (g_c1 rfl) (b_175_0 hI.1 hR.2.1.1 hR.2.1.2.1 (fun k ek hk n en hn => ?_) (fun k ek hk h => ?_) (fun h => ?_))
  · subst ek en
    refine g_pure 4 (i' := 12) (lv' := [some (vR 0), some (vI (nI k)), some (vI (nI n))]) (st' := [vI (nI n), vI (nI k), vR 8]) rfl ?_
    refine g_cV1E rfl (args := [vR 8, vI (nI k), vI (nI n)]) (rest := []) rfl rfl rfl (s_99 (d := d) hI.1 hR.2.1.1 hR.2.1.2.1 (hR.W hI) hk hn.2) (fun s h9 => ?_)
    refine g_iret rfl (cR_v (hR.wy hI h9) (fun c hc => h9 c (by omega) (by omega) (by omega) (by omega)) ?_)
    unfold feastedR
    rw [if_pos ((okx_nI (by omega)).mpr (by omega)), if_pos ((okr_nI (by omega) (by omega) (by omega)).mpr hn), nI_clamp (by omega), nI_clamp (by omega)]
  · subst ek
    refine cR_x hR (fun _ _ => rfl) (c := 1) ?_ rfl
    unfold feastedR
    rw [if_pos ((okx_nI (by omega)).mpr (by omega)), if_neg (show ¬ okr y 1 60 from h)]
  · refine cR_x hR (fun _ _ => rfl) (c := 0) ?_ rfl
    unfold feastedR
    rw [if_neg h]
