/-! MEETING (made by wip/whole/gen84.py) -/
theorem b_92_0 {X : Nat × (Nat → Int32)} {d : Nat} {p : Nat → Nat} {sg : Mg} {Q : am_R → Prop} {B : Nat} {S : Nat → Int32} (hI : Inv B S) (hL : cwL 250 sg S) (hD : cwD 200 sg S) (hW : LW S sg) {k : Nat} {m : Nat} {W : Prop} [Decidable W] (u_k : k ≤ 7) (u_m : m ≤ 7) (q1 : k < sn S 1) (q2 : m < sn S 1)
    (o1 : ∀ s1 : Mg, ((∀ c, c ≠ 8 → c ≠ 9 → s1 c = sg c) ∧ bOK S s1) → ∀ s2 : Mg, (SF s1 s2 ∧ bOK S s2 ∧ ∃ F, soM s2 F ∧ spP S k (hmN S k) (stN S k) (200 + sn S 8) F) → gW X (d + 8) k_92 12 [some (vR 8), some (vI (nI k)), some (vI (nI m)), some (vI (if W then 1 else 0)), some (vI (nI (200 + sn S 8))), none, none, none, none] [] p s2 Q) :
    gW X (d + 8) k_92 0 [some (vR 8), some (vI (nI k)), some (vI (nI m)), some (vI (if W then 1 else 0)), none, none, none, none, none] [] p sg Q := by
  have b0 := hI.b0; have b1 := hI.b1; have b2 := hI.b2; have b3 := hI.b3; have b4 := hI.b4; have b5 := hI.b5; have b6 := hI.b6; have b7 := hI.b7; have b8 := hI.b8; have b9 := hI.b9; have b14 := hI.b14
  refine g_pure 1 (i' := 1) (lv' := [some (vR 8), some (vI (nI k)), some (vI (nI m)), some (vI (if W then 1 else 0)), none, none, none, none, none]) (st' := [vR 8]) rfl ?_
  refine g_cV0E rfl (args := [vR 8]) (rest := []) rfl rfl rfl (s_82 (d := d + 6) hW) (fun s1 es1 => ?_)
  have hLs1 : cwL 250 s1 S := (hL).eqc (fun c h1 h2 => es1.1 c (by omega) (by omega))
  have hDs1 : cwD 200 s1 S := (hD).eqc (fun c h1 => es1.1 c (by omega) (by omega))
  have hWs1 : LW S s1 := (hW).eqc (fun c h1 h2 => es1.1 c (by omega) (by omega))
  refine g_pure 2 (i' := 4) (lv' := [some (vR 8), some (vI (nI k)), some (vI (nI m)), some (vI (if W then 1 else 0)), none, none, none, none, none]) (st' := [vR 250]) rfl ?_
  refine g_getI rfl (g_A (a := 250) (kd := 0) (n := 6) rfl (by decide)) (show _ = S 8 from hLs1.f12) ?_
  refine g_pure 6 (i' := 11) (lv' := [some (vR 8), some (vI (nI k)), some (vI (nI m)), some (vI (if W then 1 else 0)), some (vI (S 8 + 200)), none, none, none, none]) (st' := [vI (S 8 + 200), vI (nI k), vR 8]) rfl ?_
  refine gW_eq (lv' := [some (vR 8), some (vI (nI k)), some (vI (nI m)), some (vI (if W then 1 else 0)), some (vI (nI (200 + sn S 8))), none, none, none, none]) (st' := [vI (nI (200 + sn S 8)), vI (nI k), vR 8]) (by rw [(show (S 8 + 200) = nI (200 + sn S 8) from ((g_add (hI.c8) (show (200 : Int32) = nI 200 from rfl))).trans (congrArg nI (by omega)))]) (by rw [(show (S 8 + 200) = nI (200 + sn S 8) from ((g_add (hI.c8) (show (200 : Int32) = nI 200 from rfl))).trans (congrArg nI (by omega)))]) rfl ?_
  refine g_cV0E rfl (args := [vR 8, vI (nI k), vI (nI (200 + sn S 8))]) (rest := []) rfl rfl rfl (s_83 (d := d + 1) hI hLs1 hDs1 hWs1 es1.2 (by omega) (by omega)) (fun s2 es2 => ?_)
  have hLs2 : cwL 250 s2 S := es2.1.L hLs1
  have hDs2 : cwD 200 s2 S := es2.1.D hDs1
  have hWs2 : LW S s2 := es2.1.W hWs1
  exact o1 s1 es1 s2 es2

theorem b_92_17 {X : Nat × (Nat → Int32)} {d : Nat} {p : Nat → Nat} {sg : Mg} {Q : am_R → Prop} {B : Nat} {S : Nat → Int32} (hI : Inv B S) (hL : cwL 250 sg S) (hD : cwD 200 sg S) (hW : LW S sg) (hB : bOK S sg) {k : Nat} {m : Nat} {W : Prop} [Decidable W] {l : Nat} (u_k : k ≤ 7) (u_m : m ≤ 7) (u_l : l ≤ 200400) (q1 : m < sn S 1) (q2 : l ≤ sn S 8 + 400)
    (o1 : ∀ s1 : Mg, (SF sg s1 ∧ bOK S s1 ∧ ∃ F, soM s1 F ∧ spP S m (hmN S m) (stN S m) l F) → gW X (d + 8) k_92 27 [some (vR 8), some (vI (nI k)), some (vI (nI m)), some (vI (if W then 1 else 0)), some (vI (nI l)), some (vI 2000000000), some (vI (-1)), some (vI 0), none] [] p s1 Q) :
    gW X (d + 8) k_92 17 [some (vR 8), some (vI (nI k)), some (vI (nI m)), some (vI (if W then 1 else 0)), some (vI (nI l)), none, none, none, none] [] p sg Q := by
  have b0 := hI.b0; have b1 := hI.b1; have b2 := hI.b2; have b3 := hI.b3; have b4 := hI.b4; have b5 := hI.b5; have b6 := hI.b6; have b7 := hI.b7; have b8 := hI.b8; have b9 := hI.b9; have b14 := hI.b14
  refine g_pure 3 (i' := 20) (lv' := [some (vR 8), some (vI (nI k)), some (vI (nI m)), some (vI (if W then 1 else 0)), some (vI (nI l)), none, none, none, none]) (st' := [vI (nI l), vI (nI m), vR 8]) rfl ?_
  refine g_cV0E rfl (args := [vR 8, vI (nI m), vI (nI l)]) (rest := []) rfl rfl rfl (s_83 (d := d + 1) hI hL hD hW hB (by omega) (by omega)) (fun s1 es1 => ?_)
  have hLs1 : cwL 250 s1 S := es1.1.L hL
  have hDs1 : cwD 200 s1 S := es1.1.D hD
  have hWs1 : LW S s1 := es1.1.W hW
  refine g_pure 6 (i' := 27) (lv' := [some (vR 8), some (vI (nI k)), some (vI (nI m)), some (vI (if W then 1 else 0)), some (vI (nI l)), some (vI 2000000000), some (vI (-1)), some (vI 0), none]) (st' := []) rfl ?_
  exact o1 s1 es1

theorem b_92_27 {X : Nat × (Nat → Int32)} {d : Nat} {p : Nat → Nat} {sg : Mg} {Q : am_R → Prop} {B : Nat} {S : Nat → Int32} (hI : Inv B S) (hL : cwL 250 sg S) (hD : cwD 200 sg S) {f g : Nat} {z1 : Option AV} {z2 : Option AV} {W : Prop} [Decidable W] {z4 : Option AV} {b : Nat} {q : Int32} {j : Nat} {z8 : Option AV} (u_b : b ≤ 2000000000) (u_j : j ≤ 5) (q1 : f ≤ 2000000000) (q2 : g ≤ 2000000000) (q3 : j < sn S 0) (hx : sg 10 j = nI f) (hy : sg 11 j = nI g)
    (o1 : (b ≤ max f g) → gW X (d + 8) k_92 27 [some (vR 8), z1, z2, some (vI (if W then 1 else 0)), z4, some (vI (nI b)), some (vI q), some (vI (nI (j + 1))), some (vI (nI (max f g)))] [] p sg Q)
    (o2 : (¬ (b ≤ max f g)) → gW X (d + 8) k_92 27 [some (vR 8), z1, z2, some (vI (if W then 1 else 0)), z4, some (vI (nI (max f g))), some (vI (nI j)), some (vI (nI (j + 1))), some (vI (nI (max f g)))] [] p sg Q) :
    gW X (d + 8) k_92 27 [some (vR 8), z1, z2, some (vI (if W then 1 else 0)), z4, some (vI (nI b)), some (vI q), some (vI (nI j)), z8] [] p sg Q := by
  have b0 := hI.b0; have b1 := hI.b1; have b2 := hI.b2; have b3 := hI.b3; have b4 := hI.b4; have b5 := hI.b5; have b6 := hI.b6; have b7 := hI.b7; have b8 := hI.b8; have b9 := hI.b9; have b14 := hI.b14
  refine g_pure 5 (i' := 32) (lv' := [some (vR 8), z1, z2, some (vI (if W then 1 else 0)), z4, some (vI (nI b)), some (vI q), some (vI (nI j)), z8]) (st' := [vI 0, vR 203, vI (nI j)]) rfl ?_
  refine g_ald rfl (g_A (a := 203) (kd := 1) (n := 6) rfl (by decide)) (by decide) (show 0 = nI 0 from (show (0 : Int32) = nI 0 from rfl)) (by decide) (show _ = S 0 from (hD.cnt (by decide))) ?_
  refine g_if2 (i' := 53) (P := sn S 0 ≤ j) rfl rfl (g_geN (show nI j = nI j from (rfl : nI j = nI j)) (show S 0 = nI (sn S 0) from (hI.c0)) (by omega) (by omega)) (fun h1 => absurd h1 (by omega)) (fun _ => ?_)
  refine g_pure 3 (i' := 37) (lv' := [some (vR 8), z1, z2, some (vI (if W then 1 else 0)), z4, some (vI (nI b)), some (vI q), some (vI (nI j)), z8]) (st' := [vI (nI j), vR 10]) rfl ?_
  refine g_ald rfl (g_A (a := 10) (kd := 1) (n := 6) rfl (by decide)) (by decide) (show nI j = nI j from (rfl : nI j = nI j)) (by omega) (show _ = nI f from hx) ?_
  refine g_pure 3 (i' := 41) (lv' := [some (vR 8), z1, z2, some (vI (if W then 1 else 0)), z4, some (vI (nI b)), some (vI q), some (vI (nI j)), z8]) (st' := [vI (nI j), vR 11, vI (nI f)]) rfl ?_
  refine g_ald rfl (g_A (a := 11) (kd := 1) (n := 6) rfl (by decide)) (by decide) (show nI j = nI j from (rfl : nI j = nI j)) (by omega) (show _ = nI g from hy) ?_
  refine g_cS1 rfl (args := [vI (nI f), vI (nI g)]) (rest := []) rfl rfl rfl (s_316n (d := d + 7) (by omega) (by omega)) ?_
  have t2 := Nat.le_max_left f g
  have t3 := Nat.le_max_right f g
  refine g_pure 3 (i' := 46) (lv' := [some (vR 8), z1, z2, some (vI (if W then 1 else 0)), z4, some (vI (nI b)), some (vI q), some (vI (nI j)), some (vI (nI (max f g)))]) (st' := [vI (nI b), vI (nI (max f g))]) rfl ?_
  refine g_if2 (i' := 51) (P := b ≤ max f g) rfl rfl (g_geN (show nI (max f g) = nI (max f g) from (rfl : nI (max f g) = nI (max f g))) (show nI b = nI b from (rfl : nI b = nI b)) (by omega) (by omega)) (fun h4 => ?_) (fun h4 => ?_)
  · refine g_pure 2 (i' := 27) (lv' := [some (vR 8), z1, z2, some (vI (if W then 1 else 0)), z4, some (vI (nI b)), some (vI q), some (vI (nI j + 1)), some (vI (nI (max f g)))]) (st' := []) rfl ?_
    refine gW_eq (lv' := [some (vR 8), z1, z2, some (vI (if W then 1 else 0)), z4, some (vI (nI b)), some (vI q), some (vI (nI (j + 1))), some (vI (nI (max f g)))]) (st' := []) (by rw [(show (nI j + 1) = nI (j + 1) from ((g_add (rfl : nI j = nI j) (show (1 : Int32) = nI 1 from rfl))).trans (congrArg nI (by omega)))]) rfl rfl ?_
    exact o1 h4
  · refine g_pure 6 (i' := 27) (lv' := [some (vR 8), z1, z2, some (vI (if W then 1 else 0)), z4, some (vI (nI (max f g))), some (vI (nI j)), some (vI (nI j + 1)), some (vI (nI (max f g)))]) (st' := []) rfl ?_
    refine gW_eq (lv' := [some (vR 8), z1, z2, some (vI (if W then 1 else 0)), z4, some (vI (nI (max f g))), some (vI (nI j)), some (vI (nI (j + 1))), some (vI (nI (max f g)))]) (st' := []) (by rw [(show (nI j + 1) = nI (j + 1) from ((g_add (rfl : nI j = nI j) (show (1 : Int32) = nI 1 from rfl))).trans (congrArg nI (by omega)))]) rfl rfl ?_
    exact o2 h4

theorem b_92_x {X : Nat × (Nat → Int32)} {d : Nat} {p : Nat → Nat} {sg : Mg} {Q : am_R → Prop} {B : Nat} {S : Nat → Int32} (hI : Inv B S) (hL : cwL 250 sg S) (hD : cwD 200 sg S) {z1 : Option AV} {z2 : Option AV} {W : Prop} [Decidable W] {z4 : Option AV} {b : Nat} {q : Int32} {z8 : Option AV} (u_b : b ≤ 2000000000) (u_snS0 : sn S 0 ≤ 6)
    (o1 : (W) → Q (gRv p sg q))
    (o2 : (¬ W) → (¬ q = (-1)) → Q (gRv p sg (nI b)))
    (o3 : (¬ W) → (q = (-1)) → Q (gRv p sg q)) :
    gW X (d + 8) k_92 27 [some (vR 8), z1, z2, some (vI (if W then 1 else 0)), z4, some (vI (nI b)), some (vI q), some (vI (nI (sn S 0))), z8] [] p sg Q := by
  have b0 := hI.b0; have b1 := hI.b1; have b2 := hI.b2; have b3 := hI.b3; have b4 := hI.b4; have b5 := hI.b5; have b6 := hI.b6; have b7 := hI.b7; have b8 := hI.b8; have b9 := hI.b9; have b14 := hI.b14
  refine g_pure 5 (i' := 32) (lv' := [some (vR 8), z1, z2, some (vI (if W then 1 else 0)), z4, some (vI (nI b)), some (vI q), some (vI (nI (sn S 0))), z8]) (st' := [vI 0, vR 203, vI (nI (sn S 0))]) rfl ?_
  refine g_ald rfl (g_A (a := 203) (kd := 1) (n := 6) rfl (by decide)) (by decide) (show 0 = nI 0 from (show (0 : Int32) = nI 0 from rfl)) (by decide) (show _ = S 0 from (hD.cnt (by decide))) ?_
  refine g_if2 (i' := 53) (P := sn S 0 ≤ sn S 0) rfl rfl (g_geN (show nI (sn S 0) = nI (sn S 0) from (rfl : nI (sn S 0) = nI (sn S 0))) (show S 0 = nI (sn S 0) from (hI.c0)) (by omega) (by omega)) (fun _ => ?_) (fun h1 => absurd (Nat.le_refl _) h1)
  refine g_pure 1 (i' := 54) (lv' := [some (vR 8), z1, z2, some (vI (if W then 1 else 0)), z4, some (vI (nI b)), some (vI q), some (vI (nI (sn S 0))), z8]) (st' := [vI (if W then 1 else 0)]) rfl ?_
  refine g_if1 (i' := 58) (P := W) rfl rfl g_neB (fun h2 => ?_) (fun h2 => ?_)
  · refine g_pure 2 (i' := 61) (lv' := [some (vR 8), z1, z2, some (vI (if W then 1 else 0)), z4, some (vI (nI b)), some (vI q), some (vI (nI (sn S 0))), z8]) (st' := [vI q]) rfl ?_
    refine g_iret rfl ?_
    exact o1 h2
  · refine g_pure 2 (i' := 57) (lv' := [some (vR 8), z1, z2, some (vI (if W then 1 else 0)), z4, some (vI (nI b)), some (vI q), some (vI (nI (sn S 0))), z8]) (st' := [vI (-1), vI q]) rfl ?_
    refine g_if2 (i' := 60) (P := ¬ q = (-1)) rfl rfl Iff.rfl (fun h3 => ?_) (fun h3 => ?_)
    · refine g_pure 1 (i' := 61) (lv' := [some (vR 8), z1, z2, some (vI (if W then 1 else 0)), z4, some (vI (nI b)), some (vI q), some (vI (nI (sn S 0))), z8]) (st' := [vI (nI b)]) rfl ?_
      refine g_iret rfl ?_
      exact o2 h2 h3
    · have h3 := Classical.not_not.mp h3
      refine g_pure 2 (i' := 61) (lv' := [some (vR 8), z1, z2, some (vI (if W then 1 else 0)), z4, some (vI (nI b)), some (vI q), some (vI (nI (sn S 0))), z8]) (st' := [vI q]) rfl ?_
      refine g_iret rfl ?_
      exact o3 h2 h3

theorem b_282_0 {X : Nat × (Nat → Int32)} {d : Nat} {p : Nat → Nat} {sg : Mg} {Q : am_R → Prop} {B : Nat} {S : Nat → Int32} (hI : Inv B S) (hS : sg 801 = S) {x : Int32} {y : Int32} {W : Prop} [Decidable W]
    (o1 : ∀ s1 : Mg, s1 = mu sg 800 0 0 → (¬ okx x (sn S 1)) → ∀ s3 : Mg, s3 = mu s1 800 0 (nI 1) → Q (gRv p s3 0))
    (o2 : ∀ s1 : Mg, s1 = mu sg 800 0 0 → ∀ n5 : Nat, x = nI n5 → n5 < sn S 1 → ∀ n7 : Nat, y = nI n7 → n7 < sn S 1 → (¬ n5 = n7) → gW X (d + 10) k_282 30 [some (vR 800), some (vI (nI n5)), some (vI (nI n7)), some (vI (if W then 1 else 0)), none, none] [] p s1 Q)
    (o3 : ∀ s1 : Mg, s1 = mu sg 800 0 0 → ∀ n5 : Nat, x = nI n5 → n5 < sn S 1 → ∀ n7 : Nat, y = nI n7 → n7 < sn S 1 → (n5 = n7) → ∀ s11 : Mg, s11 = mu s1 800 0 (nI 2) → Q (gRv p s11 0))
    (o4 : ∀ s1 : Mg, s1 = mu sg 800 0 0 → ∀ n5 : Nat, x = nI n5 → n5 < sn S 1 → (¬ okx y (sn S 1)) → ∀ s13 : Mg, s13 = mu s1 800 0 (nI 1) → Q (gRv p s13 0)) :
    gW X (d + 10) k_282 0 [some (vR 800), some (vI x), some (vI y), some (vI (if W then 1 else 0)), none, none] [] p sg Q := by
  have b0 := hI.b0; have b1 := hI.b1; have b2 := hI.b2; have b3 := hI.b3; have b4 := hI.b4; have b5 := hI.b5; have b6 := hI.b6; have b7 := hI.b7; have b8 := hI.b8; have b9 := hI.b9; have b14 := hI.b14
  refine g_pure 2 (i' := 2) (lv' := [some (vR 800), some (vI x), some (vI y), some (vI (if W then 1 else 0)), none, none]) (st' := [vI 0, vR 800]) rfl ?_
  refine g_putI rfl (g_A (a := 800) (kd := 0) (n := 12) rfl (by decide)) ?_
  refine g_setv (fun s1 es1 => ?_)
  have hSs1 : s1 801 = S := by rw [es1, mu_ne (by decide), hS]
  refine g_pure 3 (i' := 6) (lv' := [some (vR 800), some (vI x), some (vI y), some (vI (if W then 1 else 0)), none, none]) (st' := [vI x, vR 800, vR 800]) rfl ?_
  refine g_cV1 rfl (args := [vR 800, vI x]) (rest := [vR 800]) rfl rfl rfl (s_237 (d := d + 8) hI hSs1) ?_
  refine g_if1 (i' := 12) (P := ¬ okx x (sn S 1)) rfl rfl g_neB (fun h2 => ?_) (fun h2 => ?_)
  · refine g_pure 3 (i' := 16) (lv' := [some (vR 800), some (vI x), some (vI y), some (vI (if W then 1 else 0)), none, none]) (st' := [vI 1, vI 1, vR 800]) rfl ?_
    refine gW_eq (st' := [vI (nI 1), vI 1, vR 800]) rfl (by rw [(show (1 : Int32) = nI 1 from rfl)]) rfl ?_
    refine g_cV1 rfl (args := [vR 800, vI 1, vI (nI 1)]) (rest := []) rfl rfl rfl (s_227t (d := d + 9) (by omega)) ?_
    refine g_setv (fun s3 es3 => ?_)
    have hSs3 : s3 801 = S := by rw [es3, mu_ne (by decide), hSs1]
    refine g_if1 (i' := 28) (P := ¬ 1 = 0) rfl rfl (g_neN (show 1 = nI 1 from (show (1 : Int32) = nI 1 from rfl)) (show 0 = nI 0 from (show (0 : Int32) = nI 0 from rfl)) (by omega) (by omega)) (fun _ => ?_) (fun h4 => absurd (by omega) h4)
    refine g_pure 1 (i' := 29) (lv' := [some (vR 800), some (vI x), some (vI y), some (vI (if W then 1 else 0)), none, none]) (st' := [vI 0]) rfl ?_
    refine g_iret rfl ?_
    exact o1 s1 es1 h2 s3 es3
  · have h2 := Classical.not_not.mp h2
    obtain ⟨n5, ln5, en5⟩ := okx_of h2
    subst en5
    refine g_pure 2 (i' := 10) (lv' := [some (vR 800), some (vI (nI n5)), some (vI y), some (vI (if W then 1 else 0)), none, none]) (st' := [vI y, vR 800, vR 800]) rfl ?_
    refine g_cV1 rfl (args := [vR 800, vI y]) (rest := [vR 800]) rfl rfl rfl (s_237 (d := d + 8) hI hSs1) ?_
    refine g_if1 (i' := 14) (P := okx y (sn S 1)) rfl rfl (g_eqB.trans Classical.not_not) (fun h6 => ?_) (fun h6 => ?_)
    · obtain ⟨n7, ln7, en7⟩ := okx_of h6
      subst en7
      refine g_pure 2 (i' := 16) (lv' := [some (vR 800), some (vI (nI n5)), some (vI (nI n7)), some (vI (if W then 1 else 0)), none, none]) (st' := [vI 1, vI 0, vR 800]) rfl ?_
      refine gW_eq (st' := [vI (nI 1), vI 0, vR 800]) rfl (by rw [(show (1 : Int32) = nI 1 from rfl)]) rfl ?_
      refine g_cV1 rfl (args := [vR 800, vI 0, vI (nI 1)]) (rest := []) rfl rfl rfl (s_227f (d := d + 9) (by omega)) ?_
      refine g_if1 (i' := 28) (P := ¬ 0 = 0) rfl rfl (g_neN (show 0 = nI 0 from (show (0 : Int32) = nI 0 from rfl)) (show 0 = nI 0 from (show (0 : Int32) = nI 0 from rfl)) (by omega) (by omega)) (fun h8 => absurd h8 (by omega)) (fun _ => ?_)
      refine g_pure 3 (i' := 21) (lv' := [some (vR 800), some (vI (nI n5)), some (vI (nI n7)), some (vI (if W then 1 else 0)), none, none]) (st' := [vI (nI n7), vI (nI n5), vR 800]) rfl ?_
      refine g_if2 (i' := 24) (P := ¬ n5 = n7) rfl rfl (g_neN (show nI n5 = nI n5 from (rfl : nI n5 = nI n5)) (show nI n7 = nI n7 from (rfl : nI n7 = nI n7)) (by omega) (by omega)) (fun h9 => ?_) (fun h9 => ?_)
      · refine g_pure 2 (i' := 26) (lv' := [some (vR 800), some (vI (nI n5)), some (vI (nI n7)), some (vI (if W then 1 else 0)), none, none]) (st' := [vI 2, vI 0, vR 800]) rfl ?_
        refine gW_eq (st' := [vI (nI 2), vI 0, vR 800]) rfl (by rw [(show (2 : Int32) = nI 2 from rfl)]) rfl ?_
        refine g_cV1 rfl (args := [vR 800, vI 0, vI (nI 2)]) (rest := []) rfl rfl rfl (s_227f (d := d + 9) (by omega)) ?_
        refine g_if1 (i' := 30) (P := 0 = 0) rfl rfl (g_eqN (show 0 = nI 0 from (show (0 : Int32) = nI 0 from rfl)) (show 0 = nI 0 from (show (0 : Int32) = nI 0 from rfl)) (by omega) (by omega)) (fun _ => ?_) (fun h10 => absurd (by omega) h10)
        exact o2 s1 es1 n5 rfl ln5 n7 rfl ln7 h9
      · have h9 := Classical.not_not.mp h9
        refine g_pure 3 (i' := 26) (lv' := [some (vR 800), some (vI (nI n5)), some (vI (nI n7)), some (vI (if W then 1 else 0)), none, none]) (st' := [vI 2, vI 1, vR 800]) rfl ?_
        refine gW_eq (st' := [vI (nI 2), vI 1, vR 800]) rfl (by rw [(show (2 : Int32) = nI 2 from rfl)]) rfl ?_
        refine g_cV1 rfl (args := [vR 800, vI 1, vI (nI 2)]) (rest := []) rfl rfl rfl (s_227t (d := d + 9) (by omega)) ?_
        refine g_setv (fun s11 es11 => ?_)
        have hSs11 : s11 801 = S := by rw [es11, mu_ne (by decide), hSs1]
        refine g_if1 (i' := 30) (P := 1 = 0) rfl rfl (g_eqN (show 1 = nI 1 from (show (1 : Int32) = nI 1 from rfl)) (show 0 = nI 0 from (show (0 : Int32) = nI 0 from rfl)) (by omega) (by omega)) (fun h12 => absurd h12 (by omega)) (fun _ => ?_)
        refine g_pure 1 (i' := 29) (lv' := [some (vR 800), some (vI (nI n5)), some (vI (nI n7)), some (vI (if W then 1 else 0)), none, none]) (st' := [vI 0]) rfl ?_
        refine g_iret rfl ?_
        exact o3 s1 es1 n5 rfl ln5 n7 rfl ln7 h9 s11 es11
    · refine g_pure 3 (i' := 16) (lv' := [some (vR 800), some (vI (nI n5)), some (vI y), some (vI (if W then 1 else 0)), none, none]) (st' := [vI 1, vI 1, vR 800]) rfl ?_
      refine gW_eq (st' := [vI (nI 1), vI 1, vR 800]) rfl (by rw [(show (1 : Int32) = nI 1 from rfl)]) rfl ?_
      refine g_cV1 rfl (args := [vR 800, vI 1, vI (nI 1)]) (rest := []) rfl rfl rfl (s_227t (d := d + 9) (by omega)) ?_
      refine g_setv (fun s13 es13 => ?_)
      have hSs13 : s13 801 = S := by rw [es13, mu_ne (by decide), hSs1]
      refine g_if1 (i' := 28) (P := ¬ 1 = 0) rfl rfl (g_neN (show 1 = nI 1 from (show (1 : Int32) = nI 1 from rfl)) (show 0 = nI 0 from (show (0 : Int32) = nI 0 from rfl)) (by omega) (by omega)) (fun _ => ?_) (fun h14 => absurd (by omega) h14)
      refine g_pure 1 (i' := 29) (lv' := [some (vR 800), some (vI (nI n5)), some (vI y), some (vI (if W then 1 else 0)), none, none]) (st' := [vI 0]) rfl ?_
      refine g_iret rfl ?_
      exact o4 s1 es1 n5 rfl ln5 h6 s13 es13

theorem b_282_30 {X : Nat × (Nat → Int32)} {d : Nat} {p : Nat → Nat} {sg : Mg} {Q : am_R → Prop} {B : Nat} {S : Nat → Int32} (hI : Inv B S) (hS : sg 801 = S) (hA : InvA S) {k : Nat} {m : Nat} {W : Prop} [Decidable W] (u_k : k ≤ 7) (u_m : m ≤ 7) (q1 : k < sn S 1)
    (o1 : ∀ s1 : Mg, (SR sg s1 ∧ ∃ C, cnM 809 1236 s1 C ∧ cnP S k (hmN S k) (stN S k) C) → gW X (d + 10) k_282 35 [some (vR 800), some (vI (nI k)), some (vI (nI m)), some (vI (if W then 1 else 0)), some (vI 0), none] [] p s1 Q) :
    gW X (d + 10) k_282 30 [some (vR 800), some (vI (nI k)), some (vI (nI m)), some (vI (if W then 1 else 0)), none, none] [] p sg Q := by
  have b0 := hI.b0; have b1 := hI.b1; have b2 := hI.b2; have b3 := hI.b3; have b4 := hI.b4; have b5 := hI.b5; have b6 := hI.b6; have b7 := hI.b7; have b8 := hI.b8; have b9 := hI.b9; have b14 := hI.b14
  refine g_pure 2 (i' := 32) (lv' := [some (vR 800), some (vI (nI k)), some (vI (nI m)), some (vI (if W then 1 else 0)), none, none]) (st' := [vI (nI k), vR 800]) rfl ?_
  refine g_cV0E rfl (args := [vR 800, vI (nI k)]) (rest := []) rfl rfl rfl (s_273 (d := d) hI hS hA (by omega)) (fun s1 es1 => ?_)
  have hSs1 : s1 801 = S := es1.1.S hS
  refine g_pure 2 (i' := 35) (lv' := [some (vR 800), some (vI (nI k)), some (vI (nI m)), some (vI (if W then 1 else 0)), some (vI 0), none]) (st' := []) rfl ?_
  exact o1 s1 es1

theorem b_282_35 {X : Nat × (Nat → Int32)} {d : Nat} {p : Nat → Nat} {sg : Mg} {Q : am_R → Prop} {B : Nat} {S : Nat → Int32} (hI : Inv B S) (hS : sg 801 = S) {C : Nat → Bool} {z1 : Option AV} {m : Nat} {W : Prop} [Decidable W] {j : Nat} {z5 : Option AV} (u_m : m ≤ 7) (u_j : j ≤ 1235) (q1 : j < 1236) (hc : sg 809 j = (if C j = true then 1 else 0))
    (o1 : ∀ s2 : Mg, s2 = mu sg 811 j (if C j = true then 1 else 0) → gW X (d + 10) k_282 35 [some (vR 800), z1, some (vI (nI m)), some (vI (if W then 1 else 0)), some (vI (nI (j + 1))), z5] [] p s2 Q) :
    gW X (d + 10) k_282 35 [some (vR 800), z1, some (vI (nI m)), some (vI (if W then 1 else 0)), some (vI (nI j)), z5] [] p sg Q := by
  have b0 := hI.b0; have b1 := hI.b1; have b2 := hI.b2; have b3 := hI.b3; have b4 := hI.b4; have b5 := hI.b5; have b6 := hI.b6; have b7 := hI.b7; have b8 := hI.b8; have b9 := hI.b9; have b14 := hI.b14
  refine g_pure 3 (i' := 38) (lv' := [some (vR 800), z1, some (vI (nI m)), some (vI (if W then 1 else 0)), some (vI (nI j)), z5]) (st' := [vR 809, vI (nI j)]) rfl ?_
  refine g_len rfl (by decide) (by decide) (g_A (a := 809) (kd := 3) (n := 1236) rfl (by decide)) ?_
  refine gW_eq (lv' := [some (vR 800), z1, some (vI (nI m)), some (vI (if W then 1 else 0)), some (vI (nI j)), z5]) (st' := [vI 1236, vI (nI j)]) rfl (by rw [(show (nI 1236 : Int32) = 1236 from rfl)]) rfl ?_
  refine g_if2 (i' := 50) (P := 1236 ≤ j) rfl rfl (g_geN (show nI j = nI j from (rfl : nI j = nI j)) (show 1236 = nI 1236 from (show (1236 : Int32) = nI 1236 from rfl)) (by omega) (by omega)) (fun h1 => absurd h1 (by omega)) (fun _ => ?_)
  refine g_pure 6 (i' := 46) (lv' := [some (vR 800), z1, some (vI (nI m)), some (vI (if W then 1 else 0)), some (vI (nI j)), z5]) (st' := [vI (nI j), vR 809, vI (nI j), vR 811]) rfl ?_
  refine g_bald rfl (by decide) (g_A (a := 809) (kd := 3) (n := 1236) rfl (by decide)) (by decide) (show nI j = nI j from (rfl : nI j = nI j)) (by omega) (show _ = (if C j = true then 1 else 0) from hc) ?_
  refine g_bast3 rfl (g_A (a := 811) (kd := 3) (n := 1236) rfl (by decide)) (by decide) (show nI j = nI j from (rfl : nI j = nI j)) (by omega) g_narB ?_
  refine g_setv (fun s2 es2 => ?_)
  have hSs2 : s2 801 = S := by rw [es2, mu_ne (by decide), hS]
  refine g_pure 2 (i' := 35) (lv' := [some (vR 800), z1, some (vI (nI m)), some (vI (if W then 1 else 0)), some (vI (nI j + 1)), z5]) (st' := []) rfl ?_
  refine gW_eq (lv' := [some (vR 800), z1, some (vI (nI m)), some (vI (if W then 1 else 0)), some (vI (nI (j + 1))), z5]) (st' := []) (by rw [(show (nI j + 1) = nI (j + 1) from ((g_add (rfl : nI j = nI j) (show (1 : Int32) = nI 1 from rfl))).trans (congrArg nI (by omega)))]) rfl rfl ?_
  exact o1 s2 es2

theorem b_282_35x {X : Nat × (Nat → Int32)} {d : Nat} {p : Nat → Nat} {sg : Mg} {Q : am_R → Prop} {B : Nat} {S : Nat → Int32} (hI : Inv B S) (hS : sg 801 = S) (hA : InvA S) {z1 : Option AV} {m : Nat} {W : Prop} [Decidable W] {z5 : Option AV} (u_m : m ≤ 7) (q1 : m < sn S 1)
    (o1 : ∀ s2 : Mg, (SR sg s2 ∧ ∃ C, cnM 809 1236 s2 C ∧ cnP S m (hmN S m) (stN S m) C) → gW X (d + 10) k_282 55 [some (vR 800), z1, some (vI (nI m)), some (vI (if W then 1 else 0)), some (vI 0), z5] [] p s2 Q) :
    gW X (d + 10) k_282 35 [some (vR 800), z1, some (vI (nI m)), some (vI (if W then 1 else 0)), some (vI 1236), z5] [] p sg Q := by
  have b0 := hI.b0; have b1 := hI.b1; have b2 := hI.b2; have b3 := hI.b3; have b4 := hI.b4; have b5 := hI.b5; have b6 := hI.b6; have b7 := hI.b7; have b8 := hI.b8; have b9 := hI.b9; have b14 := hI.b14
  refine g_pure 3 (i' := 38) (lv' := [some (vR 800), z1, some (vI (nI m)), some (vI (if W then 1 else 0)), some (vI 1236), z5]) (st' := [vR 809, vI 1236]) rfl ?_
  refine g_len rfl (by decide) (by decide) (g_A (a := 809) (kd := 3) (n := 1236) rfl (by decide)) ?_
  refine gW_eq (lv' := [some (vR 800), z1, some (vI (nI m)), some (vI (if W then 1 else 0)), some (vI 1236), z5]) (st' := [vI 1236, vI 1236]) rfl (by rw [(show (nI 1236 : Int32) = 1236 from rfl)]) rfl ?_
  refine g_if2 (i' := 50) (P := 1236 ≤ 1236) rfl rfl (g_geN (show 1236 = nI 1236 from (show (1236 : Int32) = nI 1236 from rfl)) (show 1236 = nI 1236 from (show (1236 : Int32) = nI 1236 from rfl)) (by omega) (by omega)) (fun _ => ?_) (fun h1 => absurd (by omega) h1)
  refine g_pure 2 (i' := 52) (lv' := [some (vR 800), z1, some (vI (nI m)), some (vI (if W then 1 else 0)), some (vI 1236), z5]) (st' := [vI (nI m), vR 800]) rfl ?_
  refine g_cV0E rfl (args := [vR 800, vI (nI m)]) (rest := []) rfl rfl rfl (s_273 (d := d) hI hS hA (by omega)) (fun s2 es2 => ?_)
  have hSs2 : s2 801 = S := es2.1.S hS
  refine g_pure 2 (i' := 55) (lv' := [some (vR 800), z1, some (vI (nI m)), some (vI (if W then 1 else 0)), some (vI 0), z5]) (st' := []) rfl ?_
  exact o1 s2 es2

theorem b_282_55 {X : Nat × (Nat → Int32)} {d : Nat} {p : Nat → Nat} {sg : Mg} {Q : am_R → Prop} {B : Nat} {S : Nat → Int32} (hI : Inv B S) (hS : sg 801 = S) {z1 : Option AV} {z2 : Option AV} {W : Prop} [Decidable W] {t : Nat} {z5 : Option AV} (u_t : t ≤ 201)
    (o1 : (200 < t) → Q (gRv p sg (-1)))
    (o2 : (¬ (200 < t)) → gW X (d + 10) k_282 60 [some (vR 800), z1, z2, some (vI (if W then 1 else 0)), some (vI (nI t)), some (vI 0)] [] p sg Q) :
    gW X (d + 10) k_282 55 [some (vR 800), z1, z2, some (vI (if W then 1 else 0)), some (vI (nI t)), z5] [] p sg Q := by
  have b0 := hI.b0; have b1 := hI.b1; have b2 := hI.b2; have b3 := hI.b3; have b4 := hI.b4; have b5 := hI.b5; have b6 := hI.b6; have b7 := hI.b7; have b8 := hI.b8; have b9 := hI.b9; have b14 := hI.b14
  refine g_pure 2 (i' := 57) (lv' := [some (vR 800), z1, z2, some (vI (if W then 1 else 0)), some (vI (nI t)), z5]) (st' := [vI 200, vI (nI t)]) rfl ?_
  refine g_if2 (i' := 89) (P := 200 < t) rfl rfl (g_gtN (show nI t = nI t from (rfl : nI t = nI t)) (show 200 = nI 200 from (show (200 : Int32) = nI 200 from rfl)) (by omega) (by omega)) (fun h1 => ?_) (fun h1 => ?_)
  · refine g_pure 1 (i' := 90) (lv' := [some (vR 800), z1, z2, some (vI (if W then 1 else 0)), some (vI (nI t)), z5]) (st' := [vI (-1)]) rfl ?_
    refine g_iret rfl ?_
    exact o1 h1
  · refine g_pure 2 (i' := 60) (lv' := [some (vR 800), z1, z2, some (vI (if W then 1 else 0)), some (vI (nI t)), some (vI 0)]) (st' := []) rfl ?_
    exact o2 h1

theorem b_282_60 {X : Nat × (Nat → Int32)} {d : Nat} {p : Nat → Nat} {sg : Mg} {Q : am_R → Prop} {B : Nat} {S : Nat → Int32} (hI : Inv B S) (hS : sg 801 = S) {C D : Nat → Bool} (hC : cnM 809 1236 sg C) {z1 : Option AV} {z2 : Option AV} {W : Prop} [Decidable W] {t : Nat} {v : Nat} (u_t : t ≤ 200) (u_v : v ≤ 6) (hd : sg 811 (6 * t + v) = (if D (6 * t + v) = true then 1 else 0))
    (o1 : (sn S 0 ≤ v) → gW X (d + 10) k_282 55 [some (vR 800), z1, z2, some (vI (if W then 1 else 0)), some (vI (nI (t + 1))), some (vI (nI v))] [] p sg Q)
    (o2 : (¬ (sn S 0 ≤ v)) → (¬ (C (6 * t + v) = true)) → gW X (d + 10) k_282 60 [some (vR 800), z1, z2, some (vI (if W then 1 else 0)), some (vI (nI t)), some (vI (nI (v + 1)))] [] p sg Q)
    (o3 : (¬ (sn S 0 ≤ v)) → ((C (6 * t + v) = true)) → (¬ (D (6 * t + v) = true)) → gW X (d + 10) k_282 60 [some (vR 800), z1, z2, some (vI (if W then 1 else 0)), some (vI (nI t)), some (vI (nI (v + 1)))] [] p sg Q)
    (o4 : (¬ (sn S 0 ≤ v)) → ((C (6 * t + v) = true)) → ((D (6 * t + v) = true)) → (¬ W) → Q (gRv p sg (nI (sn S 8 + t))))
    (o5 : (¬ (sn S 0 ≤ v)) → ((C (6 * t + v) = true)) → ((D (6 * t + v) = true)) → (W) → Q (gRv p sg (nI v))) :
    gW X (d + 10) k_282 60 [some (vR 800), z1, z2, some (vI (if W then 1 else 0)), some (vI (nI t)), some (vI (nI v))] [] p sg Q := by
  have b0 := hI.b0; have b1 := hI.b1; have b2 := hI.b2; have b3 := hI.b3; have b4 := hI.b4; have b5 := hI.b5; have b6 := hI.b6; have b7 := hI.b7; have b8 := hI.b8; have b9 := hI.b9; have b14 := hI.b14
  refine g_pure 2 (i' := 62) (lv' := [some (vR 800), z1, z2, some (vI (if W then 1 else 0)), some (vI (nI t)), some (vI (nI v))]) (st' := [vR 800, vI (nI v)]) rfl ?_
  refine g_cV1 rfl (args := [vR 800]) (rest := [vI (nI v)]) rfl rfl rfl (s_195 (d := d + 9) hS) ?_
  refine g_if2 (i' := 87) (P := sn S 0 ≤ v) rfl rfl (g_geN (show nI v = nI v from (rfl : nI v = nI v)) (show S 0 = nI (sn S 0) from (hI.c0)) (by omega) (by omega)) (fun h1 => ?_) (fun h1 => ?_)
  · refine g_pure 2 (i' := 55) (lv' := [some (vR 800), z1, z2, some (vI (if W then 1 else 0)), some (vI (nI t + 1)), some (vI (nI v))]) (st' := []) rfl ?_
    refine gW_eq (lv' := [some (vR 800), z1, z2, some (vI (if W then 1 else 0)), some (vI (nI (t + 1))), some (vI (nI v))]) (st' := []) (by rw [(show (nI t + 1) = nI (t + 1) from ((g_add (rfl : nI t = nI t) (show (1 : Int32) = nI 1 from rfl))).trans (congrArg nI (by omega)))]) rfl rfl ?_
    exact o1 h1
  · refine g_pure 3 (i' := 67) (lv' := [some (vR 800), z1, z2, some (vI (if W then 1 else 0)), some (vI (nI t)), some (vI (nI v))]) (st' := [vI (nI v), vI (nI t), vR 800]) rfl ?_
    refine g_cV1 rfl (args := [vR 800, vI (nI t), vI (nI v)]) (rest := []) rfl rfl rfl (s_278 (d := d + 8) hI hS hC (by omega) (by omega)) ?_
    refine g_if1 (i' := 85) (P := ¬ (C (6 * t + v) = true)) rfl rfl g_eqB (fun h2 => ?_) (fun h2 => ?_)
    · refine g_pure 2 (i' := 60) (lv' := [some (vR 800), z1, z2, some (vI (if W then 1 else 0)), some (vI (nI t)), some (vI (nI v + 1))]) (st' := []) rfl ?_
      refine gW_eq (lv' := [some (vR 800), z1, z2, some (vI (if W then 1 else 0)), some (vI (nI t)), some (vI (nI (v + 1)))]) (st' := []) (by rw [(show (nI v + 1) = nI (v + 1) from ((g_add (rfl : nI v = nI v) (show (1 : Int32) = nI 1 from rfl))).trans (congrArg nI (by omega)))]) rfl rfl ?_
      exact o2 h1 h2
    · have h2 := Classical.not_not.mp h2
      refine g_pure 4 (i' := 73) (lv' := [some (vR 800), z1, z2, some (vI (if W then 1 else 0)), some (vI (nI t)), some (vI (nI v))]) (st' := [vI (nI v), vI (nI t), vR 811]) rfl ?_
      refine g_cS1 rfl (args := [vI (nI t), vI (nI v)]) (rest := [vR 811]) rfl rfl rfl (s_277 (d := d + 9) (by omega) (by omega)) ?_
      refine g_bald rfl (by decide) (g_A (a := 811) (kd := 3) (n := 1236) rfl (by decide)) (by decide) (show nI (6 * t + v) = nI (6 * t + v) from (rfl : nI (6 * t + v) = nI (6 * t + v))) (by omega) (show _ = (if D (6 * t + v) = true then 1 else 0) from hd) ?_
      refine g_if1 (i' := 85) (P := ¬ (D (6 * t + v) = true)) rfl rfl g_eqB (fun h3 => ?_) (fun h3 => ?_)
      · refine g_pure 2 (i' := 60) (lv' := [some (vR 800), z1, z2, some (vI (if W then 1 else 0)), some (vI (nI t)), some (vI (nI v + 1))]) (st' := []) rfl ?_
        refine gW_eq (lv' := [some (vR 800), z1, z2, some (vI (if W then 1 else 0)), some (vI (nI t)), some (vI (nI (v + 1)))]) (st' := []) (by rw [(show (nI v + 1) = nI (v + 1) from ((g_add (rfl : nI v = nI v) (show (1 : Int32) = nI 1 from rfl))).trans (congrArg nI (by omega)))]) rfl rfl ?_
        exact o3 h1 h2 h3
      · have h3 := Classical.not_not.mp h3
        refine g_pure 1 (i' := 77) (lv' := [some (vR 800), z1, z2, some (vI (if W then 1 else 0)), some (vI (nI t)), some (vI (nI v))]) (st' := [vI (if W then 1 else 0)]) rfl ?_
        refine g_if1 (i' := 80) (P := ¬ W) rfl rfl g_eqB (fun h4 => ?_) (fun h4 => ?_)
        · refine g_pure 1 (i' := 81) (lv' := [some (vR 800), z1, z2, some (vI (if W then 1 else 0)), some (vI (nI t)), some (vI (nI v))]) (st' := [vR 800]) rfl ?_
          refine g_cV1 rfl (args := [vR 800]) (rest := []) rfl rfl rfl (s_248 (d := d + 9) hS) ?_
          refine g_pure 2 (i' := 84) (lv' := [some (vR 800), z1, z2, some (vI (if W then 1 else 0)), some (vI (nI t)), some (vI (nI v))]) (st' := [vI (S 8 + nI t)]) rfl ?_
          refine gW_eq (lv' := [some (vR 800), z1, z2, some (vI (if W then 1 else 0)), some (vI (nI t)), some (vI (nI v))]) (st' := [vI (nI (sn S 8 + t))]) rfl (by rw [(show (S 8 + nI t) = nI (sn S 8 + t) from ((g_add (hI.c8) (rfl : nI t = nI t))).trans (congrArg nI (by omega)))]) rfl ?_
          refine g_iret rfl ?_
          exact o4 h1 h2 h3 h4
        · have h4 := Classical.not_not.mp h4
          refine g_pure 2 (i' := 84) (lv' := [some (vR 800), z1, z2, some (vI (if W then 1 else 0)), some (vI (nI t)), some (vI (nI v))]) (st' := [vI (nI v)]) rfl ?_
          refine g_iret rfl ?_
          exact o5 h1 h2 h3 h4

theorem b_162_0 {X : Nat × (Nat → Int32)} {d : Nat} {p : Nat → Nat} {sg : Mg} {Q : am_R → Prop} {B : Nat} {S : Nat → Int32} (hI : Inv B S) (hL : cwL 250 sg S) (hD : cwD 200 sg S) {x : Int32} {y : Int32} {W : Prop} [Decidable W]
    (o1 : ∀ n2 : Nat, x = nI n2 → n2 < sn S 1 → ∀ n4 : Nat, y = nI n4 → n4 < sn S 1 → (¬ n2 = n4) → gW X (d + 9) k_162 11 [some (vR 0), some (vI (nI n2)), some (vI (nI n4)), some (vI (if W then 1 else 0))] [] p sg Q)
    (o2 : ∀ n2 : Nat, x = nI n2 → n2 < sn S 1 → ∀ n4 : Nat, y = nI n4 → n4 < sn S 1 → (n2 = n4) → Q (gRx p sg 0))
    (o3 : ∀ n2 : Nat, x = nI n2 → n2 < sn S 1 → (¬ okx y (sn S 1)) → Q (gRx p sg 2))
    (o4 : (¬ okx x (sn S 1)) → Q (gRx p sg 2)) :
    gW X (d + 9) k_162 0 [some (vR 0), some (vI x), some (vI y), some (vI (if W then 1 else 0))] [] p sg Q := by
  have b0 := hI.b0; have b1 := hI.b1; have b2 := hI.b2; have b3 := hI.b3; have b4 := hI.b4; have b5 := hI.b5; have b6 := hI.b6; have b7 := hI.b7; have b8 := hI.b8; have b9 := hI.b9; have b14 := hI.b14
  refine g_pure 3 (i' := 3) (lv' := [some (vR 0), some (vI x), some (vI y), some (vI (if W then 1 else 0))]) (st' := [vI x, vI 1, vR 0]) rfl ?_
  by_cases h1 : okx x (sn S 1)
  · obtain ⟨n2, ln2, en2⟩ := okx_of h1
    subst en2
    refine gW_eq (st' := [vI (nI n2), vI (nI 1), vR 0]) rfl (by rw [(show (1 : Int32) = nI 1 from rfl)]) rfl ?_
    refine g_cV0 rfl (args := [vR 0, vI (nI 1), vI (nI n2)]) (rest := []) rfl rfl rfl (s_140o (d := d + 7) hI hL hD (by omega) ((okx_nI (by omega)).mpr (by omega))) ?_
    refine g_pure 3 (i' := 7) (lv' := [some (vR 0), some (vI (nI n2)), some (vI y), some (vI (if W then 1 else 0))]) (st' := [vI y, vI 1, vR 0]) rfl ?_
    by_cases h3 : okx y (sn S 1)
    · obtain ⟨n4, ln4, en4⟩ := okx_of h3
      subst en4
      refine gW_eq (st' := [vI (nI n4), vI (nI 1), vR 0]) rfl (by rw [(show (1 : Int32) = nI 1 from rfl)]) rfl ?_
      refine g_cV0 rfl (args := [vR 0, vI (nI 1), vI (nI n4)]) (rest := []) rfl rfl rfl (s_140o (d := d + 7) hI hL hD (by omega) ((okx_nI (by omega)).mpr (by omega))) ?_
      refine g_pure 2 (i' := 10) (lv' := [some (vR 0), some (vI (nI n2)), some (vI (nI n4)), some (vI (if W then 1 else 0))]) (st' := [vI (nI n4), vI (nI n2)]) rfl ?_
      by_cases h5 : ¬ n2 = n4
      · refine g_cS0 rfl (args := [vI (nI n2), vI (nI n4)]) (rest := []) rfl rfl rfl (s_155o (d := d + 8) (fun h9 => absurd ((nI_eq (by omega) (by omega)).mp h9) (by assumption))) ?_
        exact o1 n2 rfl ln2 n4 rfl ln4 h5
      · have h5 := Classical.not_not.mp h5
        refine g_cSx rfl (args := [vI (nI n2), vI (nI n4)]) (rest := []) rfl rfl rfl (s_155x (d := d + 8) (congrArg nI (by assumption))) ?_
        exact o2 n2 rfl ln2 n4 rfl ln4 h5
    · refine gW_eq (st' := [vI y, vI (nI 1), vR 0]) rfl (by rw [(show (1 : Int32) = nI 1 from rfl)]) rfl ?_
      refine g_cVx rfl (args := [vR 0, vI (nI 1), vI y]) (rest := []) rfl rfl rfl (s_140x (d := d + 7) hI hL hD (by omega) (by assumption)) ?_
      exact o3 n2 rfl ln2 h3
  · refine gW_eq (st' := [vI x, vI (nI 1), vR 0]) rfl (by rw [(show (1 : Int32) = nI 1 from rfl)]) rfl ?_
    refine g_cVx rfl (args := [vR 0, vI (nI 1), vI x]) (rest := []) rfl rfl rfl (s_140x (d := d + 7) hI hL hD (by omega) (by assumption)) ?_
    exact o4 h1

/-- both can be in a village at a dawn -/
noncomputable def mtP (S : Nat → Int32) (k m t v : Nat) : Bool := rcB S k (hmN S k) (stN S k) (sn S 8 + t) v && rcB S m (hmN S m) (stN S m) (sn S 8 + t) v
noncomputable def mtT (S : Nat → Int32) (k m : Nat) : Nat := fnd (fun t => anyb (mtP S k m t) (sn S 0)) 201 0
noncomputable def mtU (S : Nat → Int32) (k m : Nat) : Nat := fnd (mtP S k m (mtT S k m)) (sn S 0) 0
noncomputable def mtV (S : Nat → Int32) (k m : Nat) (W : Prop) [Decidable W] : Int32 := if mtT S k m < 201 then (if W then nI (mtU S k m) else nI (sn S 8 + mtT S k m)) else -1
theorem mtP_t {S : Nat → Int32} {k m t v : Nat} : mtP S k m t v = true ↔ Rch S k (hmN S k) (stN S k) (sn S 8 + t) v ∧ Rch S m (hmN S m) (stN S m) (sn S 8 + t) v := by
  unfold mtP
  rw [Bool.and_eq_true, rcB_t, rcB_t]
theorem mtP_f {S : Nat → Int32} {k m t v : Nat} (h : ¬ (Rch S k (hmN S k) (stN S k) (sn S 8 + t) v ∧ Rch S m (hmN S m) (stN S m) (sn S 8 + t) v)) : mtP S k m t v = false := by
  rw [← mtP_t] at h
  simpa using h
theorem any_f {P : Nat → Bool} {n : Nat} (h : ∀ j, j < n → P j = false) : anyb P n = false := by
  cases c : anyb P n
  · rfl
  · obtain ⟨j, h1, h2⟩ := anyb_iff.mp c
    rw [h j h1] at h2
    cases h2
theorem mtV_at {S : Nat → Int32} {k m t v : Nat} {W : Prop} [Decidable W] (ht : t ≤ 200) (hv : v < sn S 0) (h : mtP S k m t v = true) (h1 : ∀ u, u < t → ∀ w, w < sn S 0 → mtP S k m u w = false) (h2 : ∀ w, w < v → mtP S k m t w = false) : mtV S k m W = if W then nI v else nI (sn S 8 + t) := by
  have e1 : mtT S k m = t := fnd_eq (Nat.zero_le _) (by omega) (anyb_iff.mpr ⟨v, hv, h⟩) (fun u _ hu => any_f (h1 u hu))
  have e2 : mtU S k m = v := by
    unfold mtU
    rw [e1]
    exact fnd_eq (Nat.zero_le _) (by omega) h (fun w _ hw => h2 w hw)
  unfold mtV
  rw [e2, e1, if_pos (by omega)]
theorem mtV_no {S : Nat → Int32} {k m : Nat} {W : Prop} [Decidable W] (h1 : ∀ u, u ≤ 200 → ∀ w, w < sn S 0 → mtP S k m u w = false) : mtV S k m W = -1 := by
  unfold mtV
  rw [if_neg (fun h => ?_)]
  have h2 := (fnd_spec (fun t => anyb (mtP S k m t) (sn S 0)) 201 0).2.2.2 (by unfold mtT at h; omega)
  unfold mtT at h
  rw [any_f (h1 _ (by omega))] at h2
  cases h2
/-- the best so far, in the class -/
def mtI (F G : Nat → Nat) (b : Nat) (q : Int32) (j : Nat) : Prop := (b = 2000000000 ∧ q = -1 ∧ ∀ u, u < j → 2000000000 ≤ max (F u) (G u)) ∨ ∃ v, v < j ∧ q = nI v ∧ b = max (F v) (G v) ∧ b < 2000000000 ∧ (∀ u, u < j → b ≤ max (F u) (G u)) ∧ ∀ u, u < v → b < max (F u) (G u)
theorem mtI.skip {F G : Nat → Nat} {b j : Nat} {q : Int32} (h : mtI F G b q j) (hb : b ≤ max (F j) (G j)) : mtI F G b q (j + 1) := by
  rcases h with ⟨h1, h2, h3⟩ | ⟨v, h1, h2, h3, h4, h5, h6⟩
  · refine Or.inl ⟨h1, h2, fun u hu => ?_⟩
    by_cases e : u = j
    · subst e; omega
    · exact h3 u (by omega)
  · refine Or.inr ⟨v, by omega, h2, h3, h4, fun u hu => ?_, h6⟩
    by_cases e : u = j
    · subst e; exact hb
    · exact h5 u (by omega)
theorem mtI.take {F G : Nat → Nat} {b j : Nat} {q : Int32} (h : mtI F G b q j) (hb : max (F j) (G j) < b) (hb2 : b ≤ 2000000000) : mtI F G (max (F j) (G j)) (nI j) (j + 1) := by
  refine Or.inr ⟨j, by omega, rfl, rfl, by omega, fun u hu => ?_, fun u hu => ?_⟩
  · by_cases e : u = j
    · subst e; exact Nat.le_refl _
    · rcases h with ⟨h1, h2, h3⟩ | ⟨v, h1, h2, h3, h4, h5, h6⟩
      · have := h3 u (by omega); omega
      · have := h5 u (by omega); omega
  · rcases h with ⟨h1, h2, h3⟩ | ⟨v, h1, h2, h3, h4, h5, h6⟩
    · have := h3 u (by omega); omega
    · have := h5 u (by omega); omega
theorem s_92 {X : Nat × (Nat → Int32)} {d : Nat} {p : Nat → Nat} {sg : Mg} {B : Nat} {S : Nat → Int32} (hI : Inv B S) (hL : cwL 250 sg S) (hD : cwD 200 sg S) (hW : LW S sg) {k m : Nat} {W : Prop} [Decidable W] (hk : k < sn S 1) (hm : m < sn S 1) : gF X (d + 9) 92 [vR 8, vI (nI k), vI (nI m), vI (if W then 1 else 0)] p sg (fun r => ∃ s, WY sg s ∧ r = gRv p s (mtV S k m W)) := by
  have b0 := hI.b0; have b1 := hI.b1; have b8 := hI.b8
  refine g_in (cd := k_92) (nL := 9) (rc := 10) rfl (g_A (a := 8) (kd := 0) (n := 9) rfl (by decide)) (g_c1 rfl) (b_92_0 hI hL hD hW (by omega) (by omega) hk hm (fun s1 h1 s2 h2 => ?_))
  have w2 : WY sg s2 := (WY.bg h1).tr (WY.sf h2.1)
  obtain ⟨F, hM, hP1, hP2⟩ := h2.2.2
  have hB := h2.2.1
  rw [show 200 + sn S 8 = sn S 8 + 200 by omega] at hP1 hP2 ⊢
  refine g_pure 4 (i' := 16) (lv' := [some (vR 8), some (vI (nI k)), some (vI (nI m)), some (vI (if W then 1 else 0)), some (vI (nI (sn S 8 + 200))), none, none, none, none]) (st' := [vR 11, vR 10]) rfl ?_
  refine g_calS rfl (args := [vR 10, vR 11]) (rest := []) rfl rfl (Nat.zero_le _) (s_132 (d := d + 6) (g_A (a := 10) (kd := 1) (n := 6) rfl (by decide)) (g_A (a := 11) (kd := 1) (n := 6) rfl (by decide)) (by omega)) (fun q hq => ?_)
  have hq : q = gR0 p (va_up s2 11 (va_cpy (s2 10) (s2 11) 0 0 6)) := hq
  subst hq
  refine gK_0 ?_
  have w3 := w2.tr (show WY s2 (va_up s2 11 (va_cpy (s2 10) (s2 11) 0 0 6)) from fun c c1 _ _ _ => va_up_ne _ _ (by omega))
  have hB3 : bOK S (va_up s2 11 (va_cpy (s2 10) (s2 11) 0 0 6)) := hB.eq (va_up_ne _ _ (by decide)) (va_up_ne _ _ (by decide))
  have hM11 : ∀ u, u < 6 → (va_up s2 11 (va_cpy (s2 10) (s2 11) 0 0 6)) 11 u = nI (F u) := fun u hu => by
    rw [va_up_self]
    show va_cpy (s2 10) (s2 11) 0 0 6 u = _
    rw [← (hM u hu).1]
    unfold va_cpy
    rw [if_pos (by omega)]
    congr 1
    omega
  generalize va_up s2 11 (va_cpy (s2 10) (s2 11) 0 0 6) = s3 at w3 hB3 hM11
  refine b_92_17 hI (w3.L hL) (w3.D hD) (w3.W hW) hB3 (by omega) (by omega) (by omega) hm (by omega) (fun s4 h4 => ?_)
  have w4 : WY sg s4 := w3.tr (WY.sf h4.1)
  obtain ⟨G, gM, gP1, gP2⟩ := h4.2.2
  have e11 : ∀ u, u < 6 → s4 11 u = nI (F u) := fun u hu => by rw [h4.1 11 (by decide) (by decide) (by decide) (by decide)]; exact hM11 u hu
  have key := g_upI (P := fun j => ∀ b q z8, b ≤ 2000000000 → mtI G F b q j → gW X (d + 8) k_92 27 [some (vR 8), some (vI (nI k)), some (vI (nI m)), some (vI (if W then 1 else 0)), some (vI (nI (sn S 8 + 200))), some (vI (nI b)), some (vI q), some (vI (nI j)), z8] [] p s4 (fun r => ∃ s, WY sg s ∧ r = gRv p s (mtV S k m W))) (I := fun _ => True) (n := sn S 0) (a := 0) (by omega) trivial ?_ ?_
  · exact key 2000000000 (-1) none (Nat.le_refl _) (Or.inl ⟨rfl, rfl, fun u hu => absurd hu (Nat.not_lt_zero _)⟩)
  · intro j _ hj _ ih b q z8 hb hq
    have ih := ih trivial
    have m1 := gM j (by omega)
    have m2 := hM j (by omega)
    refine b_92_27 hI (w4.L hL) (w4.D hD) hb (by omega) m1.2 m2.2 hj m1.1 (e11 j (by omega)) (fun h => ?_) (fun h => ?_)
    · exact ih _ _ _ hb (hq.skip h)
    · exact ih _ _ _ (by omega) (hq.take (by omega) hb)
  · intro _ b q z8 hb hq
    have no : (∀ u, u < sn S 0 → 2000000000 ≤ max (G u) (F u)) → mtV S k m W = -1 := fun h => mtV_no (fun t ht u hu => mtP_f (fun hR => by
      have g1 := hP2 _ u hu (show sn S 8 + t ≤ sn S 8 + 200 by omega) hR.1
      have g2 := gP2 _ u hu (show sn S 8 + t ≤ sn S 8 + 200 by omega) hR.2
      have := h u hu
      omega))
    have yes : ∀ v, v < sn S 0 → b = max (G v) (F v) → b < 2000000000 → (∀ u, u < sn S 0 → b ≤ max (G u) (F u)) → (∀ u, u < v → b < max (G u) (F u)) → mtV S k m W = if W then nI v else nI b := fun v hv e1 e2 e3 e4 => by
      have f1 := (hP1 v hv).resolve_left (by omega)
      have f2 := (gP1 v hv).resolve_left (by omega)
      have f3 := f1.2.ge
      have f4 := (hm_ok hI hk).2.1
      have eb : sn S 8 + (b - sn S 8) = b := by omega
      have := mtV_at (S := S) (k := k) (m := m) (t := b - sn S 8) (v := v) (W := W) (by omega) hv (mtP_t.mpr ⟨by rw [eb]; exact f1.2.mono (by omega), by rw [eb]; exact f2.2.mono (by omega)⟩) (fun t ht u hu => mtP_f (fun hR => ?_)) (fun u hu => mtP_f (fun hR => ?_))
      · rw [eb] at this; exact this
      · have g1 := hP2 _ u hu (show sn S 8 + t ≤ sn S 8 + 200 by omega) hR.1
        have g2 := gP2 _ u hu (show sn S 8 + t ≤ sn S 8 + 200 by omega) hR.2
        have := e3 u hu
        omega
      · rw [eb] at hR
        have g1 := hP2 _ u (by omega) (show b ≤ sn S 8 + 200 by omega) hR.1
        have g2 := gP2 _ u (by omega) (show b ≤ sn S 8 + 200 by omega) hR.2
        have := e4 u hu
        omega
    refine b_92_x hI (w4.L hL) (w4.D hD) hb (by omega) (fun hWt => ⟨s4, w4, ?_⟩) (fun hWf hq1 => ⟨s4, w4, ?_⟩) (fun hWf hq1 => ⟨s4, w4, ?_⟩)
    · rcases hq with ⟨h1, h2, h3⟩ | ⟨v, h1, h2, h3, h4, h5, h6⟩
      · rw [no h3, h2]
      · rw [yes v h1 h3 h4 h5 h6, if_pos hWt, h2]
    · rcases hq with ⟨h1, h2, h3⟩ | ⟨v, h1, h2, h3, h4, h5, h6⟩
      · exact absurd h2 hq1
      · rw [yes v h1 h3 h4 h5 h6, if_neg hWf]
    · rcases hq with ⟨h1, h2, h3⟩ | ⟨v, h1, h2, h3, h4, h5, h6⟩
      · rw [no h3, h2]
      · rw [h2] at hq1; exact absurd hq1 (nI_m1 (by omega))
noncomputable def meetingR (S : Nat → Int32) (x y : Int32) (W : Prop) [Decidable W] : Nat × Int32 := if okx x (sn S 1) then (if okx y (sn S 1) then (if ¬ x = y then (0, mtV S x.toNatClampNeg y.toNatClampNeg W) else (2, 0)) else (1, 0)) else (1, 0)
theorem c_meeting {X : Nat × (Nat → Int32)} {d : Nat} {p : Nat → Nat} {sg : Mg} {B : Nat} {A : AS} (hI : RI B A) (hR : RC A p sg) {x y : Int32} {W : Prop} [Decidable W] : gF X (d + 10) 162 [vR 0, vI x, vI y, vI (if W then 1 else 0)] p sg (cR A A (fun c => if c = 1 then 2 else 0) (meetingR A.S x y W) sg) := by
  have b1 := hI.1.b1
  refine g_in (cd := k_162) (nL := 4) (rc := 12) rfl (g_A (a := 0) (kd := 0) (n := 11) rfl (by decide)) (g_c1 rfl) (b_162_0 hI.1 hR.2.1.1 hR.2.1.2.1 (fun k ek hk m em hm hne => ?_) (fun k ek hk m em hm hne => ?_) (fun k ek hk h => ?_) (fun h => ?_))
  · subst ek em
    refine g_pure 5 (i' := 16) (lv' := [some (vR 0), some (vI (nI k)), some (vI (nI m)), some (vI (if W then 1 else 0))]) (st' := [vI (if W then 1 else 0), vI (nI m), vI (nI k), vR 8]) rfl ?_
    refine g_cV1E rfl (args := [vR 8, vI (nI k), vI (nI m), vI (if W then 1 else 0)]) (rest := []) rfl rfl rfl (s_92 (d := d) hI.1 hR.2.1.1 hR.2.1.2.1 (hR.W hI) hk hm) (fun s h9 => ?_)
    refine g_iret rfl (cR_v (hR.wy hI h9) (fun c hc => h9 c (by omega) (by omega) (by omega) (by omega)) ?_)
    unfold meetingR
    rw [if_pos ((okx_nI (by omega)).mpr (by omega)), if_pos ((okx_nI (by omega)).mpr (by omega)), if_pos (fun h => hne ((nI_eq (by omega) (by omega)).mp h)), nI_clamp (by omega), nI_clamp (by omega)]
  · subst ek em hne
    refine cR_x hR (fun _ _ => rfl) (c := 1) ?_ rfl
    unfold meetingR
    rw [if_pos ((okx_nI (by omega)).mpr (by omega)), if_pos ((okx_nI (by omega)).mpr (by omega)), if_neg (fun h => h rfl)]
  · subst ek
    refine cR_x hR (fun _ _ => rfl) (c := 0) ?_ rfl
    unfold meetingR
    rw [if_pos ((okx_nI (by omega)).mpr (by omega)), if_neg h]
  · refine cR_x hR (fun _ _ => rfl) (c := 0) ?_ rfl
    unfold meetingR
    rw [if_neg h]

theorem m_meeting {X : Nat × (Nat → Int32)} {d : Nat} {p : Nat → Nat} {sg : Mg} {B : Nat} {A : AS} (hI : RI B A) (hR : RM A sg) {x y : Int32} {W : Prop} [Decidable W] : gF X (d + 11) 282 [vR 800, vI x, vI y, vI (if W then 1 else 0)] p sg (mR A A (meetingR A.S x y W) p sg) := by
  have b0 := hI.1.b0; have b1 := hI.1.b1; have b8 := hI.1.b8
  refine g_in (cd := k_282) (nL := 6) (rc := 13) rfl (g_A (a := 800) (kd := 0) (n := 12) rfl (by decide)) (g_c1 rfl) (b_282_0 hI.1 hR.1 (fun s1 f1 h s3 f3 => ?_) (fun s1 f1 k ek hk m em hm hne => ?_) (fun s1 f1 k ek hk m em hm hne s3 f3 => ?_) (fun s1 f1 k ek hk h s3 f3 => ?_))
  · refine mR_x ((hR.th f1).th f3) (fun c hc => by rw [f3, f1, up_hi hc, up_hi hc]) (c := 0) (by rw [f3, mu_self]) ?_
    unfold meetingR
    rw [if_neg h]
  · subst ek em
    have hcv : meetingR A.S (nI k) (nI m) W = (0, mtV A.S k m W) := by
      unfold meetingR
      rw [if_pos ((okx_nI (by omega)).mpr (by omega)), if_pos ((okx_nI (by omega)).mpr (by omega)), if_pos (fun h => hne ((nI_eq (by omega) (by omega)).mp h)), nI_clamp (by omega), nI_clamp (by omega)]
    rw [hcv]
    have hR1 := hR.th f1
    refine b_282_30 hI.1 hR1.1 hI.2.2.1 (by omega) (by omega) hk (fun s2 h2 => ?_)
    obtain ⟨hs2, D, hD, hPD⟩ := h2
    have key := g_upI (P := fun j => ∀ s, (∀ c, c ≠ 811 → s c = s2 c) → cnM 811 j s D → gW X (d + 10) k_282 35 [some (vR 800), some (vI (nI k)), some (vI (nI m)), some (vI (if W then 1 else 0)), some (vI (nI j)), none] [] p s (mR A A (0, mtV A.S k m W) p sg)) (I := fun _ => True) (n := 1236) (a := 0) (by omega) trivial ?_ ?_
    · exact key s2 (fun _ _ => rfl) (fun i hi => absurd hi (Nat.not_lt_zero _))
    · intro j _ hj _ ih s hs hM
      have hS : s 801 = A.S := by rw [hs 801 (by decide)]; exact hs2.S hR1.1
      refine b_282_35 hI.1 hS (by omega) (by omega) hj (by rw [hs 809 (by decide)]; exact hD j hj) (fun s3 e3 => ?_)
      refine ih trivial s3 (fun c hc => by rw [e3, mu_ne hc]; exact hs c hc) (fun i hi => ?_)
      by_cases e : i = j
      · subst e; rw [e3, mu_self]
      · rw [e3, mu_idx e]; exact hM i (by omega)
    · intro _ s hs hM
      have hS : s 801 = A.S := by rw [hs 801 (by decide)]; exact hs2.S hR1.1
      refine b_282_35x hI.1 hS hI.2.2.1 (by omega) hm (fun s4 h4 => ?_)
      obtain ⟨hs4, C, hC, hPC⟩ := h4
      have all : ∀ c, c ≠ 807 → c ≠ 809 → c ≠ 811 → s4 c = s1 c := fun c c1 c2 c3 => by rw [hs4 c c1 c2, hs c c3, hs2 c c1 c2]
      have hR4 : RM A s4 := hR1.sr (fun c c1 c2 c3 c4 c5 => all c c1 (by omega) (by omega))
      have hh : ∀ c, c < 800 ∨ 900 ≤ c → s4 c = sg c := fun c hc => by rw [all c (by omega) (by omega) (by omega), f1, up_hi hc]
      have h0 : s4 800 0 = 0 := by rw [all 800 (by decide) (by decide) (by decide), f1, mu_self]
      have hD4 : cnM 811 1236 s4 D := hM.eq (hs4 811 (by decide) (by decide))
      have iff_ : ∀ t v, t ≤ 200 → v < sn A.S 0 → (mtP A.S k m t v = true ↔ D (6 * t + v) = true ∧ C (6 * t + v) = true) := fun t v ht hv => by rw [mtP_t, hPD t v ht hv, hPC t v ht hv]
      refine g_upI (P := fun t => ∀ z5, gW X (d + 10) k_282 55 [some (vR 800), some (vI (nI k)), some (vI (nI m)), some (vI (if W then 1 else 0)), some (vI (nI t)), z5] [] p s4 (mR A A (0, mtV A.S k m W) p sg)) (I := fun t => ∀ u, u < t → ∀ w, w < sn A.S 0 → mtP A.S k m u w = false) (n := 201) (a := 0) (by omega) (fun u hu => absurd hu (Nat.not_lt_zero _)) (fun t _ ht hi ih z5 => ?_) (fun hi z5 => ?_) none
      · refine b_282_55 hI.1 hR4.1 (by omega) (fun h => by omega) (fun _ => ?_)
        refine g_upI (P := fun v => gW X (d + 10) k_282 60 [some (vR 800), some (vI (nI k)), some (vI (nI m)), some (vI (if W then 1 else 0)), some (vI (nI t)), some (vI (nI v))] [] p s4 (mR A A (0, mtV A.S k m W) p sg)) (I := fun v => ∀ w, w < v → mtP A.S k m t w = false) (n := sn A.S 0) (a := 0) (by omega) (fun u hu => absurd hu (Nat.not_lt_zero _)) (fun v _ hv hj ih2 => ?_) (fun hj => ?_)
        · have nx : mtP A.S k m t v = false → ∀ w, w < v + 1 → mtP A.S k m t w = false := fun h => not_below hj h
          refine b_282_60 hI.1 hR4.1 hC (by omega) (by omega) (hD4 _ (by omega)) (fun h => by omega) (fun _ h => ih2 (nx ?_)) (fun _ h h2 => ih2 (nx ?_)) (fun _ h h2 hWf => ?_) (fun _ h h2 hWt => ?_)
          · cases c : mtP A.S k m t v
            · rfl
            · exact absurd ((iff_ t v (by omega) hv).mp c).2 h
          · cases c : mtP A.S k m t v
            · rfl
            · exact absurd ((iff_ t v (by omega) hv).mp c).1 h2
          · refine mR_v hR4 hh h0 ?_
            rw [mtV_at (by omega) hv ((iff_ t v (by omega) hv).mpr ⟨h2, h⟩) hi hj, if_neg hWf]
          · refine mR_v hR4 hh h0 ?_
            rw [mtV_at (by omega) hv ((iff_ t v (by omega) hv).mpr ⟨h2, h⟩) hi hj, if_pos hWt]
        · refine b_282_60 hI.1 hR4.1 hC (by omega) (by omega) (hD4 _ (by omega)) (fun _ => ih (fun u hu w hw => ?_) _) (fun h => by omega) (fun h => by omega) (fun h => by omega) (fun h => by omega)
          by_cases e : u = t
          · subst e; exact hj w hw
          · exact hi u (by omega) w hw
      · refine b_282_55 hI.1 hR4.1 (by omega) (fun _ => mR_v hR4 hh h0 ?_) (fun h => by omega)
        rw [mtV_no (fun u hu w hw => hi u (by omega) w hw)]
  · subst ek em hne
    refine mR_x ((hR.th f1).th f3) (fun c hc => by rw [f3, f1, up_hi hc, up_hi hc]) (c := 1) (by rw [f3, mu_self]) ?_
    unfold meetingR
    rw [if_pos ((okx_nI (by omega)).mpr (by omega)), if_pos ((okx_nI (by omega)).mpr (by omega)), if_neg (fun h => h rfl)]
  · subst ek
    refine mR_x ((hR.th f1).th f3) (fun c hc => by rw [f3, f1, up_hi hc, up_hi hc]) (c := 0) (by rw [f3, mu_self]) ?_
    unfold meetingR
    rw [if_pos ((okx_nI (by omega)).mpr (by omega)), if_neg h]
