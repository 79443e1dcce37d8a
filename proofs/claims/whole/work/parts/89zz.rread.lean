/-! COUNTRY: the whole text and the call, in the reference (made by wip/whole/gen89zz.py) -/
theorem b_185_2 {X : Nat × (Nat → Int32)} {d : Nat} {p : Nat → Nat} {sg : Mg} {Q : am_R → Prop} {i : Nat} {z2 : Option AV} (u_i : i ≤ 1558)
    (o1 : (1558 ≤ i) → gW X (d + 10) k_185 15 [some (vR 800), some (vI (nI i)), z2] [] p sg Q)
    (o2 : (¬ (1558 ≤ i)) → ∀ s2 : Mg, s2 = mu sg 803 i (sg 801 i) → gW X (d + 10) k_185 2 [some (vR 800), some (vI (nI (i + 1))), z2] [] p s2 Q) :
    gW X (d + 10) k_185 2 [some (vR 800), some (vI (nI i)), z2] [] p sg Q := by
  refine g_pure 2 (i' := 4) (lv' := [some (vR 800), some (vI (nI i)), z2]) (st' := [vI 1558, vI (nI i)]) rfl ?_
  refine g_if2 (i' := 15) (P := 1558 ≤ i) rfl rfl (g_geN (show nI i = nI i from (rfl : nI i = nI i)) (show 1558 = nI 1558 from (show (1558 : Int32) = nI 1558 from rfl)) (by omega) (by omega)) (fun h1 => ?_) (fun h1 => ?_)
  · exact o1 h1
  · refine g_pure 6 (i' := 11) (lv' := [some (vR 800), some (vI (nI i)), z2]) (st' := [vI (nI i), vR 801, vI (nI i), vR 803]) rfl ?_
    refine g_ald rfl (g_A (a := 801) (kd := 1) (n := 2407) rfl (by decide)) (by decide) (show nI i = nI i from (rfl : nI i = nI i)) (by omega) (show _ = sg 801 i from rfl) ?_
    refine g_ast rfl (g_A (a := 803) (kd := 1) (n := 1558) rfl (by decide)) (by decide) (show nI i = nI i from (rfl : nI i = nI i)) (by omega) ?_
    refine g_setv (fun s2 es2 => ?_)
    refine g_pure 2 (i' := 2) (lv' := [some (vR 800), some (vI (nI i + 1)), z2]) (st' := []) rfl ?_
    refine gW_eq (lv' := [some (vR 800), some (vI (nI (i + 1))), z2]) (st' := []) (by rw [(show (nI i + 1) = nI (i + 1) from ((g_add (rfl : nI i = nI i) (show (1 : Int32) = nI 1 from rfl))).trans (congrArg nI (by omega)))]) rfl rfl ?_
    exact o2 h1 s2 es2

theorem b_185_51 {X : Nat × (Nat → Int32)} {d : Nat} {p : Nat → Nat} {sg : Mg} {Q : am_R → Prop} {z1 : Option AV} {i : Nat} (u_i : i ≤ 1558)
    (o1 : (1558 ≤ i) → Q (gRv p sg 0))
    (o2 : (¬ (1558 ≤ i)) → ∀ s2 : Mg, s2 = mu sg 801 i (sg 803 i) → gW X (d + 10) k_185 51 [some (vR 800), z1, some (vI (nI (i + 1)))] [] p s2 Q) :
    gW X (d + 10) k_185 51 [some (vR 800), z1, some (vI (nI i))] [] p sg Q := by
  refine g_pure 2 (i' := 53) (lv' := [some (vR 800), z1, some (vI (nI i))]) (st' := [vI 1558, vI (nI i)]) rfl ?_
  refine g_if2 (i' := 64) (P := 1558 ≤ i) rfl rfl (g_geN (show nI i = nI i from (rfl : nI i = nI i)) (show 1558 = nI 1558 from (show (1558 : Int32) = nI 1558 from rfl)) (by omega) (by omega)) (fun h1 => ?_) (fun h1 => ?_)
  · refine g_pure 1 (i' := 65) (lv' := [some (vR 800), z1, some (vI (nI i))]) (st' := [vI 0]) rfl ?_
    refine g_iret rfl ?_
    exact o1 h1
  · refine g_pure 6 (i' := 60) (lv' := [some (vR 800), z1, some (vI (nI i))]) (st' := [vI (nI i), vR 803, vI (nI i), vR 801]) rfl ?_
    refine g_ald rfl (g_A (a := 803) (kd := 1) (n := 1558) rfl (by decide)) (by decide) (show nI i = nI i from (rfl : nI i = nI i)) (by omega) (show _ = sg 803 i from rfl) ?_
    refine g_ast rfl (g_A (a := 801) (kd := 1) (n := 2407) rfl (by decide)) (by decide) (show nI i = nI i from (rfl : nI i = nI i)) (by omega) ?_
    refine g_setv (fun s2 es2 => ?_)
    refine g_pure 2 (i' := 51) (lv' := [some (vR 800), z1, some (vI (nI i + 1))]) (st' := []) rfl ?_
    refine gW_eq (lv' := [some (vR 800), z1, some (vI (nI (i + 1)))]) (st' := []) (by rw [(show (nI i + 1) = nI (i + 1) from ((g_add (rfl : nI i = nI i) (show (1 : Int32) = nI 1 from rfl))).trans (congrArg nI (by omega)))]) rfl rfl ?_
    exact o2 h1 s2 es2

theorem b_185_19 {X : Nat × (Nat → Int32)} {d : Nat} {p : Nat → Nat} {sg : Mg} {Q : am_R → Prop} {v : Int32}
    (o1 : (0 ≤ v) → ∀ s2 : Mg, s2 = mu sg 800 13 (-1) → (0 ≤ v) → (¬ s2 801 6 = 12) → ∀ s7 : Mg, s7 = mu s2 801 6 (s2 801 6 + 1) → ∀ s8 : Mg, s8 = mu s7 800 6 0 → Q (gRv p s8 (s8 801 6)))
    (o2 : (0 ≤ v) → ∀ s2 : Mg, s2 = mu sg 800 13 (-1) → (0 ≤ v) → (s2 801 6 = 12) → ∀ s9 : Mg, s9 = mu s2 800 0 (nI 2) → gW X (d + 10) k_185 49 [some (vR 800), some (vI v), none] [] p s9 Q)
    (o3 : (0 ≤ v) → ∀ s2 : Mg, s2 = mu sg 800 13 (-1) → (¬ (0 ≤ v)) → ∀ s11 : Mg, s11 = mu s2 800 0 (nI 1) → gW X (d + 10) k_185 49 [some (vR 800), some (vI v), none] [] p s11 Q)
    (o4 : (¬ (0 ≤ v)) → ∀ s13 : Mg, s13 = mu sg 800 13 (sg 800 11) → (0 ≤ v) → (¬ s13 801 6 = 12) → ∀ s18 : Mg, s18 = mu s13 801 6 (s13 801 6 + 1) → ∀ s19 : Mg, s19 = mu s18 800 6 0 → Q (gRv p s19 (s19 801 6)))
    (o5 : (¬ (0 ≤ v)) → ∀ s13 : Mg, s13 = mu sg 800 13 (sg 800 11) → (0 ≤ v) → (s13 801 6 = 12) → ∀ s20 : Mg, s20 = mu s13 800 0 (nI 2) → gW X (d + 10) k_185 49 [some (vR 800), some (vI v), none] [] p s20 Q)
    (o6 : (¬ (0 ≤ v)) → ∀ s13 : Mg, s13 = mu sg 800 13 (sg 800 11) → (¬ (0 ≤ v)) → ∀ s22 : Mg, s22 = mu s13 800 0 (nI 1) → gW X (d + 10) k_185 49 [some (vR 800), some (vI v), none] [] p s22 Q) :
    gW X (d + 10) k_185 19 [some (vR 800), some (vI v), none] [] p sg Q := by
  refine g_pure 2 (i' := 21) (lv' := [some (vR 800), some (vI v), none]) (st' := [vI v, vR 800]) rfl ?_
  refine g_if1 (i' := 25) (P := 0 ≤ v) rfl rfl Iff.rfl (fun h1 => ?_) (fun h1 => ?_)
  · refine g_pure 1 (i' := 26) (lv' := [some (vR 800), some (vI v), none]) (st' := [vI (-1), vR 800]) rfl ?_
    refine g_putI rfl (g_A (a := 800) (kd := 0) (n := 12) rfl (by decide)) ?_
    refine g_setv (fun s2 es2 => ?_)
    refine g_pure 2 (i' := 29) (lv' := [some (vR 800), some (vI v), none]) (st' := [vI v, vR 800]) rfl ?_
    refine g_if1 (i' := 32) (P := 0 ≤ v) rfl rfl Iff.rfl (fun h3 => ?_) (fun h3 => ?_)
    · refine g_pure 2 (i' := 34) (lv' := [some (vR 800), some (vI v), none]) (st' := [vI 1, vI 0, vR 800]) rfl ?_
      refine gW_eq (st' := [vI (nI 1), vI 0, vR 800]) rfl (by rw [(show (1 : Int32) = nI 1 from rfl)]) rfl ?_
      refine g_cV1 rfl (args := [vR 800, vI 0, vI (nI 1)]) (rest := []) rfl rfl rfl (s_227f (d := d + 9) (by omega)) ?_
      refine g_if1 (i' := 49) (P := ¬ 0 = 0) rfl rfl (g_neN (show 0 = nI 0 from (show (0 : Int32) = nI 0 from rfl)) (show 0 = nI 0 from (show (0 : Int32) = nI 0 from rfl)) (by omega) (by omega)) (fun h4 => absurd h4 (by omega)) (fun _ => ?_)
      refine g_pure 4 (i' := 40) (lv' := [some (vR 800), some (vI v), none]) (st' := [vI 6, vR 801, vR 800]) rfl ?_
      refine g_ald rfl (g_A (a := 801) (kd := 1) (n := 2407) rfl (by decide)) (by decide) (show 6 = nI 6 from (show (6 : Int32) = nI 6 from rfl)) (by decide) (show _ = s2 801 6 from rfl) ?_
      refine g_pure 1 (i' := 42) (lv' := [some (vR 800), some (vI v), none]) (st' := [vI 12, vI (s2 801 6), vR 800]) rfl ?_
      refine g_if2 (i' := 45) (P := ¬ s2 801 6 = 12) rfl rfl Iff.rfl (fun h5 => ?_) (fun h5 => ?_)
      · refine g_pure 2 (i' := 47) (lv' := [some (vR 800), some (vI v), none]) (st' := [vI 2, vI 0, vR 800]) rfl ?_
        refine gW_eq (st' := [vI (nI 2), vI 0, vR 800]) rfl (by rw [(show (2 : Int32) = nI 2 from rfl)]) rfl ?_
        refine g_cV1 rfl (args := [vR 800, vI 0, vI (nI 2)]) (rest := []) rfl rfl rfl (s_227f (d := d + 9) (by omega)) ?_
        refine g_if1 (i' := 66) (P := 0 = 0) rfl rfl (g_eqN (show 0 = nI 0 from (show (0 : Int32) = nI 0 from rfl)) (show 0 = nI 0 from (show (0 : Int32) = nI 0 from rfl)) (by omega) (by omega)) (fun _ => ?_) (fun h6 => absurd (by omega) h6)
        refine g_pure 4 (i' := 70) (lv' := [some (vR 800), some (vI v), none]) (st' := [vI 6, vR 801, vI 6, vR 801]) rfl ?_
        refine g_ald rfl (g_A (a := 801) (kd := 1) (n := 2407) rfl (by decide)) (by decide) (show 6 = nI 6 from (show (6 : Int32) = nI 6 from rfl)) (by decide) (show _ = s2 801 6 from rfl) ?_
        refine g_pure 2 (i' := 73) (lv' := [some (vR 800), some (vI v), none]) (st' := [vI (s2 801 6 + 1), vI 6, vR 801]) rfl ?_
        refine g_ast rfl (g_A (a := 801) (kd := 1) (n := 2407) rfl (by decide)) (by decide) (show 6 = nI 6 from (show (6 : Int32) = nI 6 from rfl)) (by decide) ?_
        refine g_setv (fun s7 es7 => ?_)
        refine g_pure 2 (i' := 76) (lv' := [some (vR 800), some (vI v), none]) (st' := [vI 0, vR 800]) rfl ?_
        refine g_putI rfl (g_A (a := 800) (kd := 0) (n := 12) rfl (by decide)) ?_
        refine g_setv (fun s8 es8 => ?_)
        refine g_pure 3 (i' := 80) (lv' := [some (vR 800), some (vI v), none]) (st' := [vI 6, vR 801]) rfl ?_
        refine g_ald rfl (g_A (a := 801) (kd := 1) (n := 2407) rfl (by decide)) (by decide) (show 6 = nI 6 from (show (6 : Int32) = nI 6 from rfl)) (by decide) (show _ = s8 801 6 from rfl) ?_
        refine g_iret rfl ?_
        exact o1 h1 s2 es2 h3 h5 s7 es7 s8 es8
      · have h5 := Classical.not_not.mp h5
        refine g_pure 3 (i' := 47) (lv' := [some (vR 800), some (vI v), none]) (st' := [vI 2, vI 1, vR 800]) rfl ?_
        refine gW_eq (st' := [vI (nI 2), vI 1, vR 800]) rfl (by rw [(show (2 : Int32) = nI 2 from rfl)]) rfl ?_
        refine g_cV1 rfl (args := [vR 800, vI 1, vI (nI 2)]) (rest := []) rfl rfl rfl (s_227t (d := d + 9) (by omega)) ?_
        refine g_setv (fun s9 es9 => ?_)
        refine g_if1 (i' := 66) (P := 1 = 0) rfl rfl (g_eqN (show 1 = nI 1 from (show (1 : Int32) = nI 1 from rfl)) (show 0 = nI 0 from (show (0 : Int32) = nI 0 from rfl)) (by omega) (by omega)) (fun h10 => absurd h10 (by omega)) (fun _ => ?_)
        exact o2 h1 s2 es2 h3 h5 s9 es9
    · refine g_pure 3 (i' := 34) (lv' := [some (vR 800), some (vI v), none]) (st' := [vI 1, vI 1, vR 800]) rfl ?_
      refine gW_eq (st' := [vI (nI 1), vI 1, vR 800]) rfl (by rw [(show (1 : Int32) = nI 1 from rfl)]) rfl ?_
      refine g_cV1 rfl (args := [vR 800, vI 1, vI (nI 1)]) (rest := []) rfl rfl rfl (s_227t (d := d + 9) (by omega)) ?_
      refine g_setv (fun s11 es11 => ?_)
      refine g_if1 (i' := 49) (P := ¬ 1 = 0) rfl rfl (g_neN (show 1 = nI 1 from (show (1 : Int32) = nI 1 from rfl)) (show 0 = nI 0 from (show (0 : Int32) = nI 0 from rfl)) (by omega) (by omega)) (fun _ => ?_) (fun h12 => absurd (by omega) h12)
      exact o3 h1 s2 es2 h3 s11 es11
  · refine g_pure 3 (i' := 26) (lv' := [some (vR 800), some (vI v), none]) (st' := [vI (sg 800 11), vR 800]) rfl ?_
    refine g_putI rfl (g_A (a := 800) (kd := 0) (n := 12) rfl (by decide)) ?_
    refine g_setv (fun s13 es13 => ?_)
    refine g_pure 2 (i' := 29) (lv' := [some (vR 800), some (vI v), none]) (st' := [vI v, vR 800]) rfl ?_
    refine g_if1 (i' := 32) (P := 0 ≤ v) rfl rfl Iff.rfl (fun h14 => ?_) (fun h14 => ?_)
    · refine g_pure 2 (i' := 34) (lv' := [some (vR 800), some (vI v), none]) (st' := [vI 1, vI 0, vR 800]) rfl ?_
      refine gW_eq (st' := [vI (nI 1), vI 0, vR 800]) rfl (by rw [(show (1 : Int32) = nI 1 from rfl)]) rfl ?_
      refine g_cV1 rfl (args := [vR 800, vI 0, vI (nI 1)]) (rest := []) rfl rfl rfl (s_227f (d := d + 9) (by omega)) ?_
      refine g_if1 (i' := 49) (P := ¬ 0 = 0) rfl rfl (g_neN (show 0 = nI 0 from (show (0 : Int32) = nI 0 from rfl)) (show 0 = nI 0 from (show (0 : Int32) = nI 0 from rfl)) (by omega) (by omega)) (fun h15 => absurd h15 (by omega)) (fun _ => ?_)
      refine g_pure 4 (i' := 40) (lv' := [some (vR 800), some (vI v), none]) (st' := [vI 6, vR 801, vR 800]) rfl ?_
      refine g_ald rfl (g_A (a := 801) (kd := 1) (n := 2407) rfl (by decide)) (by decide) (show 6 = nI 6 from (show (6 : Int32) = nI 6 from rfl)) (by decide) (show _ = s13 801 6 from rfl) ?_
      refine g_pure 1 (i' := 42) (lv' := [some (vR 800), some (vI v), none]) (st' := [vI 12, vI (s13 801 6), vR 800]) rfl ?_
      refine g_if2 (i' := 45) (P := ¬ s13 801 6 = 12) rfl rfl Iff.rfl (fun h16 => ?_) (fun h16 => ?_)
      · refine g_pure 2 (i' := 47) (lv' := [some (vR 800), some (vI v), none]) (st' := [vI 2, vI 0, vR 800]) rfl ?_
        refine gW_eq (st' := [vI (nI 2), vI 0, vR 800]) rfl (by rw [(show (2 : Int32) = nI 2 from rfl)]) rfl ?_
        refine g_cV1 rfl (args := [vR 800, vI 0, vI (nI 2)]) (rest := []) rfl rfl rfl (s_227f (d := d + 9) (by omega)) ?_
        refine g_if1 (i' := 66) (P := 0 = 0) rfl rfl (g_eqN (show 0 = nI 0 from (show (0 : Int32) = nI 0 from rfl)) (show 0 = nI 0 from (show (0 : Int32) = nI 0 from rfl)) (by omega) (by omega)) (fun _ => ?_) (fun h17 => absurd (by omega) h17)
        refine g_pure 4 (i' := 70) (lv' := [some (vR 800), some (vI v), none]) (st' := [vI 6, vR 801, vI 6, vR 801]) rfl ?_
        refine g_ald rfl (g_A (a := 801) (kd := 1) (n := 2407) rfl (by decide)) (by decide) (show 6 = nI 6 from (show (6 : Int32) = nI 6 from rfl)) (by decide) (show _ = s13 801 6 from rfl) ?_
        refine g_pure 2 (i' := 73) (lv' := [some (vR 800), some (vI v), none]) (st' := [vI (s13 801 6 + 1), vI 6, vR 801]) rfl ?_
        refine g_ast rfl (g_A (a := 801) (kd := 1) (n := 2407) rfl (by decide)) (by decide) (show 6 = nI 6 from (show (6 : Int32) = nI 6 from rfl)) (by decide) ?_
        refine g_setv (fun s18 es18 => ?_)
        refine g_pure 2 (i' := 76) (lv' := [some (vR 800), some (vI v), none]) (st' := [vI 0, vR 800]) rfl ?_
        refine g_putI rfl (g_A (a := 800) (kd := 0) (n := 12) rfl (by decide)) ?_
        refine g_setv (fun s19 es19 => ?_)
        refine g_pure 3 (i' := 80) (lv' := [some (vR 800), some (vI v), none]) (st' := [vI 6, vR 801]) rfl ?_
        refine g_ald rfl (g_A (a := 801) (kd := 1) (n := 2407) rfl (by decide)) (by decide) (show 6 = nI 6 from (show (6 : Int32) = nI 6 from rfl)) (by decide) (show _ = s19 801 6 from rfl) ?_
        refine g_iret rfl ?_
        exact o4 h1 s13 es13 h14 h16 s18 es18 s19 es19
      · have h16 := Classical.not_not.mp h16
        refine g_pure 3 (i' := 47) (lv' := [some (vR 800), some (vI v), none]) (st' := [vI 2, vI 1, vR 800]) rfl ?_
        refine gW_eq (st' := [vI (nI 2), vI 1, vR 800]) rfl (by rw [(show (2 : Int32) = nI 2 from rfl)]) rfl ?_
        refine g_cV1 rfl (args := [vR 800, vI 1, vI (nI 2)]) (rest := []) rfl rfl rfl (s_227t (d := d + 9) (by omega)) ?_
        refine g_setv (fun s20 es20 => ?_)
        refine g_if1 (i' := 66) (P := 1 = 0) rfl rfl (g_eqN (show 1 = nI 1 from (show (1 : Int32) = nI 1 from rfl)) (show 0 = nI 0 from (show (0 : Int32) = nI 0 from rfl)) (by omega) (by omega)) (fun h21 => absurd h21 (by omega)) (fun _ => ?_)
        exact o5 h1 s13 es13 h14 h16 s20 es20
    · refine g_pure 3 (i' := 34) (lv' := [some (vR 800), some (vI v), none]) (st' := [vI 1, vI 1, vR 800]) rfl ?_
      refine gW_eq (st' := [vI (nI 1), vI 1, vR 800]) rfl (by rw [(show (1 : Int32) = nI 1 from rfl)]) rfl ?_
      refine g_cV1 rfl (args := [vR 800, vI 1, vI (nI 1)]) (rest := []) rfl rfl rfl (s_227t (d := d + 9) (by omega)) ?_
      refine g_setv (fun s22 es22 => ?_)
      refine g_if1 (i' := 49) (P := ¬ 1 = 0) rfl rfl (g_neN (show 1 = nI 1 from (show (1 : Int32) = nI 1 from rfl)) (show 0 = nI 0 from (show (0 : Int32) = nI 0 from rfl)) (by omega) (by omega)) (fun _ => ?_) (fun h23 => absurd (by omega) h23)
      exact o6 h1 s13 es13 h14 s22 es22

theorem s_190c {X : Nat × (Nat → Int32)} {d : Nat} {p : Nat → Nat} {sg : Mg} {B : Nat} {S : Nat → Int32} (hI : Inv B S) (hS : sg 801 = S) {T : Nat → Int32} {n k l : Nat} (hM : MK T n k sg) (hl : l ≤ 100) : gF X (d + 9) 190 [vR 800, vI 1, vI (nI l)] p sg (lnW (sel (l < 14) (prLine T n k S) (.inl (spK T n k))) T n sg p) := by
  refine g_in (cd := k_190) (nL := 3) (rc := 13) rfl (g_A (a := 800) (kd := 0) (n := 12) rfl (by decide)) (g_c1 rfl) ?_
  show gW X (d + 8) k_190 0 [some (vR 800), some (vI 1), some (vI (nI l))] [] p sg _
  refine g_pure 1 (i' := 1) (lv' := [some (vR 800), some (vI 1), some (vI (nI l))]) (st' := [vR 800]) rfl ?_
  refine g_cV0E (p' := p) rfl (args := [vR 800]) (rest := []) rfl rfl rfl (s_191l (d := d + 5) hM) (fun s hs => ?_)
  refine g_pure 2 (i' := 4) (lv' := [some (vR 800), some (vI 1), some (vI (nI l))]) (st' := [vI 1, vI (nI l)]) rfl ?_
  refine g_if1 (i' := 7) (P := False) rfl rfl cd_eq1 False.elim (fun _ => ?_)
  refine g_pure 2 (i' := 8) (lv' := [some (vR 800), some (vI 1), some (vI (nI l))]) (st' := [vI (nI 14), vI (nI l)]) rfl ?_
  have e801 : s 801 = S := (hs.2.1.1 801 (by decide)).trans hS
  have fl : ∀ s' : Mg, gW X (d + 8) k_190 21 [some (vR 800), some (vI 1), some (vI (nI l))] [] p s' (fun r => r = gRv p s' 0) := fun s' => by
    refine g_pure 1 (i' := 22) (lv' := [some (vR 800), some (vI 1), some (vI (nI l))]) (st' := [vI 0]) rfl ?_
    exact g_bret rfl g_nar0 rfl
  refine g_if2 (i' := 21) (P := 14 ≤ l) rfl rfl (nI_leI (by decide) (by omega)) (fun hge => ?_) (fun hlt => ?_)
  · obtain ⟨r, g1, rfl⟩ := fl s
    exact ⟨_, g1, Or.inl (by rw [sel_f (by omega)]; exact ⟨s, ⟨(FRm.rf sg).mf hs.2.1, hs.2.2⟩, rfl⟩)⟩
  · rw [sel_t (by omega)]
    refine g_pure 1 (i' := 10) (lv' := [some (vR 800), some (vI 1), some (vI (nI l))]) (st' := [vI 1]) rfl ?_
    refine g_if1 (i' := 15) (P := False) rfl rfl cd_eq1 False.elim (fun _ => ?_)
    refine g_pure 1 (i' := 12) (lv' := [some (vR 800), some (vI 1), some (vI (nI l))]) (st' := [vR 800]) rfl ?_
    refine g_calV rfl (args := [vR 800]) (rest := []) rfl rfl (Nat.zero_le _) (s_192 (d := d) hI e801 hs.1) (fun q hq => ?_)
    have hF0 := (FRm.rf sg).mf hs.2.1
    rcases hq with hq | ⟨q1, h1, h2, s2, h3, rfl⟩
    · cases hR : prLine T n k S with
      | inl f =>
        rw [hR] at hq
        obtain ⟨s2, h3, rfl⟩ := hq
        refine gK_v (g_if1 (i' := 21) (P := True) rfl rfl cd_eq0 (fun _ => ?_) (fun h => absurd trivial h))
        obtain ⟨r, g1, rfl⟩ := fl s2
        exact ⟨_, g1, Or.inl ⟨s2, ⟨hF0.tr h3.1, h3.2⟩, rfl⟩⟩
      | inr v =>
        rw [hR] at hq
        obtain ⟨s2, h3, rfl⟩ := hq
        refine gK_v (g_if1 (i' := 21) (P := False) rfl rfl cd_eq1 False.elim (fun _ => ?_))
        refine g_pure 3 (i' := 22) (lv' := [some (vR 800), some (vI 1), some (vI (nI l))]) (st' := [vI 1]) rfl ?_
        exact g_bret rfl g_nar1 (Or.inl ⟨s2, ⟨hF0.tr h3.1, h3.2⟩, rfl⟩)
    · refine gK_v (g_if1 (i' := 21) (P := True) rfl rfl cd_eq0 (fun _ => ?_) (fun h => absurd trivial h))
      obtain ⟨r, g1, rfl⟩ := fl s2
      exact ⟨_, g1, Or.inr ⟨q1, h1, h2, s2, ⟨hF0.tr h3.1, h3.2⟩, rfl⟩⟩
theorem isW_59 {T : Nat → Int32} {n k : Nat} (hk : k ≤ n) : isW T n k [59] ↔ isG T n k 59 := by
  have hx := nxK_ok (T := T) hk
  constructor
  · intro h
    have h1 : nxK T n k - spK T n k = 1 := h.1
    have h2 := h.2 0 (by decide)
    refine ⟨?_, h2⟩
    by_cases c : spK T n k < n
    · exact c
    · have h3 : nxK T n k = spK T n k := by unfold nxK enK; rw [if_neg c]
      omega
  · intro h
    have h1 := nxK_G (c := 59) ⟨by decide, by decide⟩ h
    refine ⟨by rw [h1]; show spK T n k + 1 - spK T n k = 1; omega, fun i hi => ?_⟩
    have : i = 0 := by have hi : i < 1 := hi; omega
    subst this
    exact h.2
/-- how reading a text ends, in the reference -/
def raM (R : PRs) (sg : Mg) (p : Nat → Nat) (r : am_R) : Prop := match R with
  | .inl f => ∃ s, (FRm sg s ∧ s 800 11 = nI f) ∧ r = gRv p s (-1)
  | .inr q => ∃ s v, (FRm sg s ∧ s 801 = q.2 ∧ (0 : Int32) ≤ v) ∧ r = gRv p s v
theorem l_186 {X : Nat × (Nat → Int32)} {d : Nat} {p : Nat → Nat} {sg0 : Mg} {B : Nat} {T : Nat → Int32} {n : Nat} : ∀ (j l k : Nat) (S : Nat → Int32) (s : Mg), l + j = 14 → Inv B S → Str S → s 801 = S → MK T n k s → FRm sg0 s → gW X (d + 9) k_186 16 [some (vR 800), some (vI 1), some (vI (nI l))] [] p s (raM (raC T n j k S) sg0 p) := by
  intro j
  induction j using Nat.strongRecOn with
  | ind j ih =>
    intro l k S s hl hI hStr hS hM hF
    refine g_pure 3 (i' := 19) (lv' := [some (vR 800), some (vI 1), some (vI (nI l))]) (st' := [vI (nI l), vI 1, vR 800]) rfl ?_
    refine g_calV rfl (args := [vR 800, vI 1, vI (nI l)]) (rest := []) rfl rfl (Nat.zero_le _) (s_190c (d := d) hI hS hM (by omega)) (fun r hr => ?_)
    have fl : ∀ (s' : Mg) (f : Nat), raC T n j k S = .inl f → FRm s s' → s' 800 11 = nI f → gW X (d + 9) k_186 20 [some (vR 800), some (vI 1), some (vI (nI l))] [vI 0] p s' (raM (raC T n j k S) sg0 p) := fun s' f e h1 h2 => by
      refine g_if1 (i' := 23) (P := False) rfl rfl cd_ne0 False.elim (fun _ => ?_)
      refine g_pure 1 (i' := 22) (lv' := [some (vR 800), some (vI 1), some (vI (nI l))]) (st' := [vI (-1)]) rfl ?_
      refine g_iret rfl ?_
      rw [e]
      exact ⟨s', ⟨hF.tr h1, h2⟩, rfl⟩
    by_cases hj : l < 14
    · rw [sel_t hj] at hr
      obtain ⟨j2, rfl⟩ : ∃ j2, j = j2 + 1 := ⟨j - 1, by omega⟩
      rcases hr with hr | ⟨q, h1, h2, s2, h3, rfl⟩
      · cases hR : prLine T n k S with
        | inl f =>
          rw [hR] at hr
          obtain ⟨s2, h3, rfl⟩ := hr
          exact gK_v (fl s2 f (raC_at hR) h3.1 h3.2)
        | inr q =>
          rw [hR] at hr
          obtain ⟨s2, h3, rfl⟩ := hr
          have hok : OKS B S q.2 := prLine_ok hI hStr hR
          have hF2 := hF.tr h3.1
          obtain ⟨hX, hk, a, ha9, ha, he⟩ := h3.2.1
          have hn := hX.1
          have hb := spK_ok (T := T) hk
          have hx := nxK_ok (T := T) hk
          rw [raC_go hR]
          refine gK_v (g_if1 (i' := 23) (P := True) rfl rfl cd_ne1 (fun _ => ?_) (fun h => absurd trivial h))
          refine g_pure 1 (i' := 24) (lv' := [some (vR 800), some (vI 1), some (vI (nI l))]) (st' := [vR 800]) rfl ?_
          refine g_cV0E (p' := p) rfl (args := [vR 800]) (rest := []) rfl rfl rfl (s_188 (d := d + 7) hX ha9 ha) (fun s3 h4 => ?_)
          rw [he] at h4
          have hX3 := hX.mf h4.1
          have hF3 := hF2.mf h4.1
          have e801 : s3 801 = q.2 := (h4.1.1 801 (by decide)).trans h3.2.2
          refine g_pure 1 (i' := 26) (lv' := [some (vR 800), some (vI 1), some (vI (nI l))]) (st' := [vR 800]) rfl ?_
          refine g_getI rfl (g_A (a := 800) (kd := 0) (n := 12) rfl (by decide)) (show _ = nI (spK T n q.1) from h4.2.1) ?_
          refine g_pure 1 (i' := 28) (lv' := [some (vR 800), some (vI 1), some (vI (nI l))]) (st' := [vR 800, vI (nI (spK T n q.1))]) rfl ?_
          refine g_getI rfl (g_A (a := 800) (kd := 0) (n := 12) rfl (by decide)) (show _ = nI n from hX3.2.1) ?_
          refine g_if2 (i' := 34) (P := ¬ spK T n q.1 = n) rfl rfl (not_congr (nI_eq (by omega) (by omega))) (fun hne => ?_) (fun he2 => ?_)
          rotate_left
          · rw [sel_t (by omega)]
            refine g_pure 3 (i' := 33) (lv' := [some (vR 800), some (vI 1), some (vI (nI l))]) (st' := [vI (nI l + 1)]) rfl ?_
            rw [show nI l + 1 = nI (l + 1) from nI_add l 1]
            exact g_iret rfl ⟨s3, _, ⟨hF3, e801, Int32.not_lt.mp (nI_pos (by omega))⟩, rfl⟩
          · rw [sel_f (by omega)]
            refine g_pure 3 (i' := 37) (lv' := [some (vR 800), some (vI 1), some (vI (nI l))]) (st' := [vI 59, vI 59, vR 800]) rfl ?_
            refine g_cV1 rfl (args := [vR 800, vI 59, vI 59]) (rest := []) rfl rfl rfl (s_189 (d := d + 8) hX3 h4.2.1 hb.2.1) ?_
            have hc : (spK T n q.1 < n ∧ ¬ T (spK T n q.1) < 59 ∧ ¬ 59 < T (spK T n q.1)) ↔ isW T n q.1 [59] := by
              rw [isW_59 hk]
              constructor
              · intro ⟨c1, c2, c3⟩
                exact ⟨c1, Int32.le_antisymm (Int32.not_lt.mp c3) (Int32.not_lt.mp c2)⟩
              · intro ⟨c1, c2⟩
                rw [c2]
                exact ⟨c1, by decide, by decide⟩
            refine g_if1 (i' := 41) (P := dcN (spK T n q.1 < n ∧ ¬ T (spK T n q.1) < 59 ∧ ¬ 59 < T (spK T n q.1)) = true) rfl rfl g_neB (fun hw => ?_) (fun hw => ?_)
            · have hw := hc.mp (dcN_i.mp hw)
              have hG := nxK_G (c := 59) ⟨by decide, by decide⟩ ((isW_59 hk).mp hw)
              rw [sel_t hw]
              refine g_pure 2 (i' := 43) (lv' := [some (vR 800), some (vI 1), some (vI (nI l))]) (st' := [vR 800, vR 800]) rfl ?_
              refine g_getI rfl (g_A (a := 800) (kd := 0) (n := 12) rfl (by decide)) (show _ = nI (spK T n q.1) from h4.2.1) ?_
              refine g_pure 2 (i' := 46) (lv' := [some (vR 800), some (vI 1), some (vI (nI l))]) (st' := [vI (nI (spK T n q.1) + 1), vR 800]) rfl ?_
              refine g_putI rfl (g_A (a := 800) (kd := 0) (n := 12) rfl (by decide)) ?_
              rw [show nI (spK T n q.1) + 1 = nI (spK T n q.1 + 1) from nI_add _ 1]
              refine g_pure 2 (i' := 16) (lv' := [some (vR 800), some (vI 1), some (vI (nI l + 1))]) (st' := []) rfl ?_
              rw [show nI l + 1 = nI (l + 1) from nI_add l 1]
              exact ih j2 (by omega) (l + 1) (nxK T n q.1) q.2 _ (by omega) hok.1 hok.2.1 (by rw [mu_ne (by decide)]; exact e801) ⟨hX3.mf (MF.rf _).m9, hx.2.1, nxK T n q.1, by rw [mu_self, hG], hx.2.1, rfl⟩ (hF3.mf (MF.rf _).m9)
            · have hw : ¬ isW T n q.1 [59] := fun g => (dcN_n.mp hw) (hc.mpr g)
              rw [sel_f hw]
              refine g_pure 1 (i' := 40) (lv' := [some (vR 800), some (vI 1), some (vI (nI l))]) (st' := [vI (-1)]) rfl ?_
              exact g_iret rfl ⟨s3, ⟨hF3, h4.2.2⟩, rfl⟩
      · refine gK_v (fl s2 (spK T n q.1) ?_ h3.1 h3.2)
        rw [raC_go h1, sel_f (by have := h2.1; omega), sel_f (fun g => ?_)]
        have g2 := g.2 0 (by decide)
        have h5 := h2.2
        rw [Nat.add_zero] at g2
        rw [g2] at h5
        exact absurd h5 (by decide)
    · rw [sel_f hj] at hr
      have hj0 : j = 0 := by omega
      subst hj0
      rcases hr with hr | ⟨q, h1, _⟩
      · obtain ⟨s2, h3, rfl⟩ := hr
        exact gK_v (fl s2 _ rfl h3.1 h3.2)
      · cases h1
