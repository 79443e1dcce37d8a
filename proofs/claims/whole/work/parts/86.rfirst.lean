/-! FIRST, in the reference; the calls (made by wip/whole/gen86.py) -/
theorem b_281_0 {X : Nat × (Nat → Int32)} {d : Nat} {p : Nat → Nat} {sg : Mg} {Q : am_R → Prop} {B : Nat} {S : Nat → Int32} (hI : Inv B S) (hS : sg 801 = S) {C : Nat → Bool} {t : Nat} {v : Nat} {l : Nat} (u_t : t ≤ 205) (u_v : v ≤ 5) (u_l : l ≤ 200) (hc : t ≤ l → sg 810 (6 * t + v) = (if C (6 * t + v) = true then 1 else 0))
    (o1 : (l < t) → Q (gRv p sg 0))
    (o2 : (¬ (l < t)) → (¬ (C (6 * t + v) = true)) → Q (gRv p sg 0))
    (o3 : (¬ (l < t)) → ((C (6 * t + v) = true)) → Q (gRv p sg 1)) :
    gW X (d + 1) k_281 0 [some (vR 800), some (vI (nI t)), some (vI (nI v)), some (vI (nI l))] [] p sg Q := by
  have b0 := hI.b0; have b1 := hI.b1; have b2 := hI.b2; have b3 := hI.b3; have b4 := hI.b4; have b5 := hI.b5; have b6 := hI.b6; have b7 := hI.b7; have b8 := hI.b8; have b9 := hI.b9; have b14 := hI.b14
  refine g_pure 2 (i' := 2) (lv' := [some (vR 800), some (vI (nI t)), some (vI (nI v)), some (vI (nI l))]) (st' := [vI (nI l), vI (nI t)]) rfl ?_
  refine g_if2 (i' := 12) (P := l < t) rfl rfl (g_gtN (show nI t = nI t from (rfl : nI t = nI t)) (show nI l = nI l from (rfl : nI l = nI l)) (by omega) (by omega)) (fun h1 => ?_) (fun h1 => ?_)
  · refine g_pure 1 (i' := 13) (lv' := [some (vR 800), some (vI (nI t)), some (vI (nI v)), some (vI (nI l))]) (st' := [vI 0]) rfl ?_
    refine g_bret rfl g_nar0 ?_
    exact o1 h1
  · refine g_pure 4 (i' := 7) (lv' := [some (vR 800), some (vI (nI t)), some (vI (nI v)), some (vI (nI l))]) (st' := [vI (nI v), vI (nI t), vR 810]) rfl ?_
    refine g_cS1 rfl (args := [vI (nI t), vI (nI v)]) (rest := [vR 810]) rfl rfl rfl (s_277 (d := d) (by omega) (by omega)) ?_
    refine g_bald rfl (by decide) (g_A (a := 810) (kd := 3) (n := 1206) rfl (by decide)) (by decide) (show nI (6 * t + v) = nI (6 * t + v) from (rfl : nI (6 * t + v) = nI (6 * t + v))) (by omega) (show _ = (if C (6 * t + v) = true then 1 else 0) from (hc (by omega))) ?_
    refine g_if1 (i' := 12) (P := ¬ (C (6 * t + v) = true)) rfl rfl g_eqB (fun h2 => ?_) (fun h2 => ?_)
    · refine g_pure 1 (i' := 13) (lv' := [some (vR 800), some (vI (nI t)), some (vI (nI v)), some (vI (nI l))]) (st' := [vI 0]) rfl ?_
      refine g_bret rfl g_nar0 ?_
      exact o2 h1 h2
    · have h2 := Classical.not_not.mp h2
      refine g_pure 2 (i' := 13) (lv' := [some (vR 800), some (vI (nI t)), some (vI (nI v)), some (vI (nI l))]) (st' := [vI 1]) rfl ?_
      refine g_bret rfl g_nar1 ?_
      exact o3 h1 h2

theorem s_281 {X : Nat × (Nat → Int32)} {d : Nat} {p : Nat → Nat} {sg : Mg} {B : Nat} {S : Nat → Int32} (hI : Inv B S) (hS : sg 801 = S) {C : Nat → Bool} (hC : cnM 810 1206 sg C) {t v l : Nat} (ht : t ≤ 205) (hv : v ≤ 5) (hl : l ≤ 200) : gF X (d + 2) 281 [vR 800, vI (nI t), vI (nI v), vI (nI l)] p sg (fun r => r = gRv p sg (if t ≤ l ∧ C (6 * t + v) = true then 1 else 0)) := by
  refine g_in (cd := k_281) (nL := 4) (rc := 13) rfl (g_A (a := 800) (kd := 0) (n := 12) rfl (by decide)) (g_c1 rfl) (b_281_0 hI hS ht hv hl (fun h => hC _ (by omega)) (fun h => ?_) (fun h h2 => ?_) (fun h h2 => ?_))
  · rw [if_neg (fun c => by omega)]
  · rw [if_neg (fun c => h2 c.2)]
  · rw [if_pos ⟨by omega, h2⟩]

theorem b_280_0 {X : Nat × (Nat → Int32)} {d : Nat} {p : Nat → Nat} {sg : Mg} {Q : am_R → Prop} {B : Nat} {S : Nat → Int32} (hI : Inv B S) (hS : sg 801 = S) {k : Nat} {w : Nat} {l : Nat} (u_k : k ≤ 7) (u_w : w ≤ 5) (u_l : l ≤ 200)
    (o1 : gW X (d + 8) k_280 2 [some (vR 800), some (vI (nI k)), some (vI (nI w)), some (vI (nI l)), some (vI 0), none, none, none] [] p sg Q) :
    gW X (d + 8) k_280 0 [some (vR 800), some (vI (nI k)), some (vI (nI w)), some (vI (nI l)), none, none, none, none] [] p sg Q := by
  have b0 := hI.b0; have b1 := hI.b1; have b2 := hI.b2; have b3 := hI.b3; have b4 := hI.b4; have b5 := hI.b5; have b6 := hI.b6; have b7 := hI.b7; have b8 := hI.b8; have b9 := hI.b9; have b14 := hI.b14
  refine g_pure 2 (i' := 2) (lv' := [some (vR 800), some (vI (nI k)), some (vI (nI w)), some (vI (nI l)), some (vI 0), none, none, none]) (st' := []) rfl ?_
  exact o1

theorem b_280_2 {X : Nat × (Nat → Int32)} {d : Nat} {p : Nat → Nat} {sg : Mg} {Q : am_R → Prop} {B : Nat} {S : Nat → Int32} (hI : Inv B S) (hS : sg 801 = S) {k : Nat} {w : Nat} {l : Nat} {j : Nat} {z5 : Option AV} {z6 : Option AV} {z7 : Option AV} (u_k : k ≤ 7) (u_w : w ≤ 5) (u_l : l ≤ 200) (u_j : j ≤ 1206)
    (o1 : (1206 ≤ j) → ∀ s2 : Mg, s2 = mu sg 810 (6 * l + w) 1 → gW X (d + 8) k_280 25 [some (vR 800), some (vI (nI k)), some (vI (nI w)), some (vI (nI l)), some (vI (nI l - 1)), z5, z6, z7] [] p s2 Q)
    (o2 : (¬ (1206 ≤ j)) → ∀ s3 : Mg, s3 = mu sg 810 j 0 → gW X (d + 8) k_280 2 [some (vR 800), some (vI (nI k)), some (vI (nI w)), some (vI (nI l)), some (vI (nI (j + 1))), z5, z6, z7] [] p s3 Q) :
    gW X (d + 8) k_280 2 [some (vR 800), some (vI (nI k)), some (vI (nI w)), some (vI (nI l)), some (vI (nI j)), z5, z6, z7] [] p sg Q := by
  have b0 := hI.b0; have b1 := hI.b1; have b2 := hI.b2; have b3 := hI.b3; have b4 := hI.b4; have b5 := hI.b5; have b6 := hI.b6; have b7 := hI.b7; have b8 := hI.b8; have b9 := hI.b9; have b14 := hI.b14
  refine g_pure 3 (i' := 5) (lv' := [some (vR 800), some (vI (nI k)), some (vI (nI w)), some (vI (nI l)), some (vI (nI j)), z5, z6, z7]) (st' := [vR 810, vI (nI j)]) rfl ?_
  refine g_len rfl (by decide) (by decide) (g_A (a := 810) (kd := 3) (n := 1206) rfl (by decide)) ?_
  refine gW_eq (lv' := [some (vR 800), some (vI (nI k)), some (vI (nI w)), some (vI (nI l)), some (vI (nI j)), z5, z6, z7]) (st' := [vI 1206, vI (nI j)]) rfl (by rw [(show (nI 1206 : Int32) = 1206 from rfl)]) rfl ?_
  refine g_if2 (i' := 14) (P := 1206 ≤ j) rfl rfl (g_geN (show nI j = nI j from (rfl : nI j = nI j)) (show 1206 = nI 1206 from (show (1206 : Int32) = nI 1206 from rfl)) (by omega) (by omega)) (fun h1 => ?_) (fun h1 => ?_)
  · refine g_pure 4 (i' := 18) (lv' := [some (vR 800), some (vI (nI k)), some (vI (nI w)), some (vI (nI l)), some (vI (nI j)), z5, z6, z7]) (st' := [vI (nI w), vI (nI l), vR 810]) rfl ?_
    refine g_cS1 rfl (args := [vI (nI l), vI (nI w)]) (rest := [vR 810]) rfl rfl rfl (s_277 (d := d + 7) (by omega) (by omega)) ?_
    refine g_pure 1 (i' := 20) (lv' := [some (vR 800), some (vI (nI k)), some (vI (nI w)), some (vI (nI l)), some (vI (nI j)), z5, z6, z7]) (st' := [vI 1, vI (nI (6 * l + w)), vR 810]) rfl ?_
    refine g_bast3 rfl (g_A (a := 810) (kd := 3) (n := 1206) rfl (by decide)) (by decide) (show nI (6 * l + w) = nI (6 * l + w) from (rfl : nI (6 * l + w) = nI (6 * l + w))) (by omega) g_nar1 ?_
    refine g_setv (fun s2 es2 => ?_)
    have hSs2 : s2 801 = S := by rw [es2, mu_ne (by decide), hS]
    refine g_pure 4 (i' := 25) (lv' := [some (vR 800), some (vI (nI k)), some (vI (nI w)), some (vI (nI l)), some (vI (nI l - 1)), z5, z6, z7]) (st' := []) rfl ?_
    exact o1 h1 s2 es2
  · refine g_pure 4 (i' := 11) (lv' := [some (vR 800), some (vI (nI k)), some (vI (nI w)), some (vI (nI l)), some (vI (nI j)), z5, z6, z7]) (st' := [vI 0, vI (nI j), vR 810]) rfl ?_
    refine g_bast3 rfl (g_A (a := 810) (kd := 3) (n := 1206) rfl (by decide)) (by decide) (show nI j = nI j from (rfl : nI j = nI j)) (by omega) g_nar0 ?_
    refine g_setv (fun s3 es3 => ?_)
    have hSs3 : s3 801 = S := by rw [es3, mu_ne (by decide), hS]
    refine g_pure 2 (i' := 2) (lv' := [some (vR 800), some (vI (nI k)), some (vI (nI w)), some (vI (nI l)), some (vI (nI j + 1)), z5, z6, z7]) (st' := []) rfl ?_
    refine gW_eq (lv' := [some (vR 800), some (vI (nI k)), some (vI (nI w)), some (vI (nI l)), some (vI (nI (j + 1))), z5, z6, z7]) (st' := []) (by rw [(show (nI j + 1) = nI (j + 1) from ((g_add (rfl : nI j = nI j) (show (1 : Int32) = nI 1 from rfl))).trans (congrArg nI (by omega)))]) rfl rfl ?_
    exact o2 h1 s3 es3

theorem b_280_25 {X : Nat × (Nat → Int32)} {d : Nat} {p : Nat → Nat} {sg : Mg} {Q : am_R → Prop} {B : Nat} {S : Nat → Int32} (hI : Inv B S) (hS : sg 801 = S) {k : Nat} {z2 : Option AV} {l : Nat} {t : Nat} {z5 : Option AV} {z6 : Option AV} {z7 : Option AV} (u_k : k ≤ 7) (u_l : l ≤ 200) (u_t : t ≤ 199)
    (o1 : gW X (d + 8) k_280 29 [some (vR 800), some (vI (nI k)), z2, some (vI (nI l)), some (vI (nI t)), some (vI 0), z6, z7] [] p sg Q) :
    gW X (d + 8) k_280 25 [some (vR 800), some (vI (nI k)), z2, some (vI (nI l)), some (vI (nI t)), z5, z6, z7] [] p sg Q := by
  have b0 := hI.b0; have b1 := hI.b1; have b2 := hI.b2; have b3 := hI.b3; have b4 := hI.b4; have b5 := hI.b5; have b6 := hI.b6; have b7 := hI.b7; have b8 := hI.b8; have b9 := hI.b9; have b14 := hI.b14
  refine g_pure 1 (i' := 26) (lv' := [some (vR 800), some (vI (nI k)), z2, some (vI (nI l)), some (vI (nI t)), z5, z6, z7]) (st' := [vI (nI t)]) rfl ?_
  refine g_if1 (i' := 95) (P := t < 0) rfl rfl (g_ltN (show nI t = nI t from (rfl : nI t = nI t)) (show 0 = nI 0 from (show (0 : Int32) = nI 0 from rfl)) (by omega) (by omega)) (fun h1 => absurd h1 (by omega)) (fun _ => ?_)
  refine g_pure 2 (i' := 29) (lv' := [some (vR 800), some (vI (nI k)), z2, some (vI (nI l)), some (vI (nI t)), some (vI 0), z6, z7]) (st' := []) rfl ?_
  exact o1

theorem b_280_25x {X : Nat × (Nat → Int32)} {d : Nat} {p : Nat → Nat} {sg : Mg} {Q : am_R → Prop} {B : Nat} {S : Nat → Int32} (hI : Inv B S) (hS : sg 801 = S) {k : Nat} {z2 : Option AV} {l : Nat} {z5 : Option AV} {z6 : Option AV} {z7 : Option AV} (u_k : k ≤ 7) (u_l : l ≤ 200)
    (o1 : Q (gR0 p sg)) :
    gW X (d + 8) k_280 25 [some (vR 800), some (vI (nI k)), z2, some (vI (nI l)), some (vI (-1)), z5, z6, z7] [] p sg Q := by
  have b0 := hI.b0; have b1 := hI.b1; have b2 := hI.b2; have b3 := hI.b3; have b4 := hI.b4; have b5 := hI.b5; have b6 := hI.b6; have b7 := hI.b7; have b8 := hI.b8; have b9 := hI.b9; have b14 := hI.b14
  refine g_pure 1 (i' := 26) (lv' := [some (vR 800), some (vI (nI k)), z2, some (vI (nI l)), some (vI (-1)), z5, z6, z7]) (st' := [vI (-1)]) rfl ?_
  refine g_if1 (i' := 95) (P := ((-1) : Int32) < 0) rfl rfl Iff.rfl (fun _ => ?_) (fun h1 => absurd (by decide) h1)
  refine g_vret rfl ?_
  exact o1

theorem b_280_29 {X : Nat × (Nat → Int32)} {d : Nat} {p : Nat → Nat} {sg : Mg} {Q : am_R → Prop} {B : Nat} {S : Nat → Int32} (hI : Inv B S) (hS : sg 801 = S) {C : Nat → Bool} {k : Nat} {z2 : Option AV} {l : Nat} {t : Nat} {v : Nat} {z6 : Option AV} {z7 : Option AV} (u_k : k ≤ 7) (u_l : l ≤ 200) (u_t : t ≤ 199) (u_v : v ≤ 6) (hc : v ≤ 5 → sg 810 (6 * (t + 1) + v) = (if C (6 * (t + 1) + v) = true then 1 else 0))
    (o1 : (sn S 0 ≤ v) → gW X (d + 8) k_280 25 [some (vR 800), some (vI (nI k)), z2, some (vI (nI l)), some (vI (nI t + -1)), some (vI (nI v)), z6, z7] [] p sg Q)
    (o2 : (¬ (sn S 0 ≤ v)) → gW X (d + 8) k_280 44 [some (vR 800), some (vI (nI k)), z2, some (vI (nI l)), some (vI (nI t)), some (vI (nI v)), some (vI (if C (6 * (t + 1) + v) = true then 1 else 0)), some (vI 0)] [] p sg Q) :
    gW X (d + 8) k_280 29 [some (vR 800), some (vI (nI k)), z2, some (vI (nI l)), some (vI (nI t)), some (vI (nI v)), z6, z7] [] p sg Q := by
  have b0 := hI.b0; have b1 := hI.b1; have b2 := hI.b2; have b3 := hI.b3; have b4 := hI.b4; have b5 := hI.b5; have b6 := hI.b6; have b7 := hI.b7; have b8 := hI.b8; have b9 := hI.b9; have b14 := hI.b14
  refine g_pure 2 (i' := 31) (lv' := [some (vR 800), some (vI (nI k)), z2, some (vI (nI l)), some (vI (nI t)), some (vI (nI v)), z6, z7]) (st' := [vR 800, vI (nI v)]) rfl ?_
  refine g_cV1 rfl (args := [vR 800]) (rest := [vI (nI v)]) rfl rfl rfl (s_195 (d := d + 7) hS) ?_
  refine g_if2 (i' := 93) (P := sn S 0 ≤ v) rfl rfl (g_geN (show nI v = nI v from (rfl : nI v = nI v)) (show S 0 = nI (sn S 0) from (hI.c0)) (by omega) (by omega)) (fun h1 => ?_) (fun h1 => ?_)
  · refine g_pure 2 (i' := 25) (lv' := [some (vR 800), some (vI (nI k)), z2, some (vI (nI l)), some (vI (nI t + -1)), some (vI (nI v)), z6, z7]) (st' := []) rfl ?_
    exact o1 h1
  · refine g_pure 6 (i' := 39) (lv' := [some (vR 800), some (vI (nI k)), z2, some (vI (nI l)), some (vI (nI t)), some (vI (nI v)), z6, z7]) (st' := [vI (nI v), vI (nI t + 1), vR 810]) rfl ?_
    refine gW_eq (lv' := [some (vR 800), some (vI (nI k)), z2, some (vI (nI l)), some (vI (nI t)), some (vI (nI v)), z6, z7]) (st' := [vI (nI v), vI (nI (t + 1)), vR 810]) rfl (by rw [(show (nI t + 1) = nI (t + 1) from ((g_add (rfl : nI t = nI t) (show (1 : Int32) = nI 1 from rfl))).trans (congrArg nI (by omega)))]) rfl ?_
    refine g_cS1 rfl (args := [vI (nI (t + 1)), vI (nI v)]) (rest := [vR 810]) rfl rfl rfl (s_277 (d := d + 7) (by omega) (by omega)) ?_
    refine g_bald rfl (by decide) (g_A (a := 810) (kd := 3) (n := 1206) rfl (by decide)) (by decide) (show nI (6 * (t + 1) + v) = nI (6 * (t + 1) + v) from (rfl : nI (6 * (t + 1) + v) = nI (6 * (t + 1) + v))) (by omega) (show _ = (if C (6 * (t + 1) + v) = true then 1 else 0) from (hc (by omega))) ?_
    refine g_pure 3 (i' := 44) (lv' := [some (vR 800), some (vI (nI k)), z2, some (vI (nI l)), some (vI (nI t)), some (vI (nI v)), some (vI (if C (6 * (t + 1) + v) = true then 1 else 0)), some (vI 0)]) (st' := []) rfl ?_
    exact o2 h1

theorem b_280_44 {X : Nat × (Nat → Int32)} {d : Nat} {p : Nat → Nat} {sg : Mg} {Q : am_R → Prop} {B : Nat} {S : Nat → Int32} (hI : Inv B S) (hS : sg 801 = S) {k : Nat} {z2 : Option AV} {l : Nat} {t : Nat} {v : Nat} {I : Prop} [Decidable I] {j : Nat} (u_k : k ≤ 7) (u_l : l ≤ 200) (u_t : t ≤ 199) (u_v : v ≤ 5) (u_j : j ≤ 12) (q1 : v < sn S 0)
    (o1 : (sn S 3 ≤ j) → gW X (d + 8) k_280 84 [some (vR 800), some (vI (nI k)), z2, some (vI (nI l)), some (vI (nI t)), some (vI (nI v)), some (vI (if I then 1 else 0)), some (vI (nI j))] [] p sg Q)
    (o2 : (¬ (sn S 3 ≤ j)) → (I) → gW X (d + 8) k_280 84 [some (vR 800), some (vI (nI k)), z2, some (vI (nI l)), some (vI (nI t)), some (vI (nI v)), some (vI (if I then 1 else 0)), some (vI (nI j))] [] p sg Q)
    (o3 : (¬ (sn S 3 ≤ j)) → (¬ I) → (otP S j v) → gW X (d + 8) k_280 55 [some (vR 800), some (vI (nI k)), z2, some (vI (nI l)), some (vI (nI t)), some (vI (nI v)), some (vI (if I then 1 else 0)), some (vI (nI j))] [] p sg Q)
    (o4 : (¬ (sn S 3 ≤ j)) → (¬ I) → (¬ otP S j v) → gW X (d + 8) k_280 44 [some (vR 800), some (vI (nI k)), z2, some (vI (nI l)), some (vI (nI t)), some (vI (nI v)), some (vI 0), some (vI (nI (j + 1)))] [] p sg Q) :
    gW X (d + 8) k_280 44 [some (vR 800), some (vI (nI k)), z2, some (vI (nI l)), some (vI (nI t)), some (vI (nI v)), some (vI (if I then 1 else 0)), some (vI (nI j))] [] p sg Q := by
  have b0 := hI.b0; have b1 := hI.b1; have b2 := hI.b2; have b3 := hI.b3; have b4 := hI.b4; have b5 := hI.b5; have b6 := hI.b6; have b7 := hI.b7; have b8 := hI.b8; have b9 := hI.b9; have b14 := hI.b14
  refine g_pure 2 (i' := 46) (lv' := [some (vR 800), some (vI (nI k)), z2, some (vI (nI l)), some (vI (nI t)), some (vI (nI v)), some (vI (if I then 1 else 0)), some (vI (nI j))]) (st' := [vR 800, vI (nI j)]) rfl ?_
  refine g_cV1 rfl (args := [vR 800]) (rest := [vI (nI j)]) rfl rfl rfl (s_209 (d := d + 7) hS) ?_
  refine g_if2 (i' := 84) (P := sn S 3 ≤ j) rfl rfl (g_geN (show nI j = nI j from (rfl : nI j = nI j)) (show S 3 = nI (sn S 3) from (hI.c3)) (by omega) (by omega)) (fun h1 => ?_) (fun h1 => ?_)
  · exact o1 h1
  · refine g_pure 1 (i' := 49) (lv' := [some (vR 800), some (vI (nI k)), z2, some (vI (nI l)), some (vI (nI t)), some (vI (nI v)), some (vI (if I then 1 else 0)), some (vI (nI j))]) (st' := [vI (if I then 1 else 0)]) rfl ?_
    refine g_if1 (i' := 84) (P := I) rfl rfl g_neB (fun h2 => ?_) (fun h2 => ?_)
    · exact o2 h1 h2
    · refine g_pure 3 (i' := 53) (lv' := [some (vR 800), some (vI (nI k)), z2, some (vI (nI l)), some (vI (nI t)), some (vI (nI v)), some (vI (if I then 1 else 0)), some (vI (nI j))]) (st' := [vI (nI v), vI (nI j), vR 800]) rfl ?_
      by_cases h3 : otP S j v
      · refine g_cV1 rfl (args := [vR 800, vI (nI j), vI (nI v)]) (rest := []) rfl rfl rfl (s_253o (d := d + 6) hI hS (by omega) (by omega) (by omega) (by assumption)) ?_
        have t4 := otN_lt hI (r := j) (by omega) v
        refine g_if1 (i' := 80) (P := otN S j v < 0) rfl rfl (g_ltN (show nI (otN S j v) = nI (otN S j v) from (rfl : nI (otN S j v) = nI (otN S j v))) (show 0 = nI 0 from (show (0 : Int32) = nI 0 from rfl)) (by omega) (by omega)) (fun h5 => absurd h5 (by omega)) (fun _ => ?_)
        exact o3 h1 h2 h3
      · refine g_cV1 rfl (args := [vR 800, vI (nI j), vI (nI v)]) (rest := []) rfl rfl rfl (s_253x (d := d + 6) hI hS (by omega) (by omega) (by omega) (by assumption)) ?_
        refine g_if1 (i' := 80) (P := ((-1) : Int32) < 0) rfl rfl Iff.rfl (fun _ => ?_) (fun h6 => absurd (by decide) h6)
        refine g_pure 4 (i' := 44) (lv' := [some (vR 800), some (vI (nI k)), z2, some (vI (nI l)), some (vI (nI t)), some (vI (nI v)), some (vI 0), some (vI (nI j + 1))]) (st' := []) rfl ?_
        refine gW_eq (lv' := [some (vR 800), some (vI (nI k)), z2, some (vI (nI l)), some (vI (nI t)), some (vI (nI v)), some (vI 0), some (vI (nI (j + 1)))]) (st' := []) (by rw [(show (nI j + 1) = nI (j + 1) from ((g_add (rfl : nI j = nI j) (show (1 : Int32) = nI 1 from rfl))).trans (congrArg nI (by omega)))]) rfl rfl ?_
        exact o4 h1 h2 h3

theorem b_280_55 {X : Nat × (Nat → Int32)} {d : Nat} {p : Nat → Nat} {sg : Mg} {Q : am_R → Prop} {B : Nat} {S : Nat → Int32} (hI : Inv B S) (hS : sg 801 = S) {C : Nat → Bool} (hA : InvA S) (hC : cnM 810 1206 sg C) {k : Nat} {z2 : Option AV} {l : Nat} {t : Nat} {v : Nat} {z6 : Option AV} {j : Nat} (u_k : k ≤ 7) (u_l : l ≤ 200) (u_t : t ≤ 199) (u_v : v ≤ 5) (u_j : j ≤ 11) (q1 : k < sn S 1) (q2 : v < sn S 0) (q3 : j < sn S 3) (hO : otP S j v)
    (o1 : (¬ ((t + sn S (177 + 3 * j + 2)) ≤ l ∧ C (6 * (t + sn S (177 + 3 * j + 2)) + (otN S j v)) = true)) → gW X (d + 8) k_280 44 [some (vR 800), some (vI (nI k)), z2, some (vI (nI l)), some (vI (nI t)), some (vI (nI v)), some (vI 0), some (vI (nI (j + 1)))] [] p sg Q)
    (o2 : (((t + sn S (177 + 3 * j + 2)) ≤ l ∧ C (6 * (t + sn S (177 + 3 * j + 2)) + (otN S j v)) = true)) → ∀ s4 : Mg, (∃ f, s4 = va_up sg 807 f) → (bd S k v (sn S 8 + t) = true) → gW X (d + 8) k_280 44 [some (vR 800), some (vI (nI k)), z2, some (vI (nI l)), some (vI (nI t)), some (vI (nI v)), some (vI 0), some (vI (nI (j + 1)))] [] p s4 Q)
    (o3 : (((t + sn S (177 + 3 * j + 2)) ≤ l ∧ C (6 * (t + sn S (177 + 3 * j + 2)) + (otN S j v)) = true)) → ∀ s4 : Mg, (∃ f, s4 = va_up sg 807 f) → (¬ (bd S k v (sn S 8 + t) = true)) → gW X (d + 8) k_280 44 [some (vR 800), some (vI (nI k)), z2, some (vI (nI l)), some (vI (nI t)), some (vI (nI v)), some (vI 1), some (vI (nI (j + 1)))] [] p s4 Q) :
    gW X (d + 8) k_280 55 [some (vR 800), some (vI (nI k)), z2, some (vI (nI l)), some (vI (nI t)), some (vI (nI v)), z6, some (vI (nI j))] [] p sg Q := by
  have b0 := hI.b0; have b1 := hI.b1; have b2 := hI.b2; have b3 := hI.b3; have b4 := hI.b4; have b5 := hI.b5; have b6 := hI.b6; have b7 := hI.b7; have b8 := hI.b8; have b9 := hI.b9; have b14 := hI.b14
  refine g_pure 5 (i' := 60) (lv' := [some (vR 800), some (vI (nI k)), z2, some (vI (nI l)), some (vI (nI t)), some (vI (nI v)), z6, some (vI (nI j))]) (st' := [vI 2, vI (nI j), vR 800, vI (nI t), vR 800]) rfl ?_
  refine gW_eq (st' := [vI (nI 2), vI (nI j), vR 800, vI (nI t), vR 800]) rfl (by rw [(show (2 : Int32) = nI 2 from rfl)]) rfl ?_
  refine g_cV1 rfl (args := [vR 800, vI (nI j), vI (nI 2)]) (rest := [vI (nI t), vR 800]) rfl rfl rfl (s_241 (d := d + 7) hS (by omega) (by omega)) ?_
  have t1 := (hI.roa (k := j) (by omega)).2.2.1
  have t1b := t1.2
  refine g_pure 4 (i' := 65) (lv' := [some (vR 800), some (vI (nI k)), z2, some (vI (nI l)), some (vI (nI t)), some (vI (nI v)), z6, some (vI (nI j))]) (st' := [vI (nI v), vI (nI j), vR 800, vI (nI t + S (177 + 3 * j + 2)), vR 800]) rfl ?_
  refine gW_eq (lv' := [some (vR 800), some (vI (nI k)), z2, some (vI (nI l)), some (vI (nI t)), some (vI (nI v)), z6, some (vI (nI j))]) (st' := [vI (nI v), vI (nI j), vR 800, vI (nI (t + sn S (177 + 3 * j + 2))), vR 800]) rfl (by rw [(show (nI t + S (177 + 3 * j + 2)) = nI (t + sn S (177 + 3 * j + 2)) from ((g_add (rfl : nI t = nI t) t1.1)).trans (congrArg nI (by omega)))]) rfl ?_
  refine g_cV1 rfl (args := [vR 800, vI (nI j), vI (nI v)]) (rest := [vI (nI (t + sn S (177 + 3 * j + 2))), vR 800]) rfl rfl rfl (s_253o (d := d + 6) hI hS (by omega) (by omega) (by omega) hO) ?_
  have t2 := otN_lt hI (r := j) (by omega) v
  refine g_pure 1 (i' := 67) (lv' := [some (vR 800), some (vI (nI k)), z2, some (vI (nI l)), some (vI (nI t)), some (vI (nI v)), z6, some (vI (nI j))]) (st' := [vI (nI l), vI (nI (otN S j v)), vI (nI (t + sn S (177 + 3 * j + 2))), vR 800]) rfl ?_
  refine g_cV1 rfl (args := [vR 800, vI (nI (t + sn S (177 + 3 * j + 2))), vI (nI (otN S j v)), vI (nI l)]) (rest := []) rfl rfl rfl (s_281 (d := d + 6) hI hS hC (by omega) (by omega) (by omega)) ?_
  refine g_if1 (i' := 80) (P := ¬ ((t + sn S (177 + 3 * j + 2)) ≤ l ∧ C (6 * (t + sn S (177 + 3 * j + 2)) + (otN S j v)) = true)) rfl rfl g_eqB (fun h3 => ?_) (fun h3 => ?_)
  · refine g_pure 4 (i' := 44) (lv' := [some (vR 800), some (vI (nI k)), z2, some (vI (nI l)), some (vI (nI t)), some (vI (nI v)), some (vI 0), some (vI (nI j + 1))]) (st' := []) rfl ?_
    refine gW_eq (lv' := [some (vR 800), some (vI (nI k)), z2, some (vI (nI l)), some (vI (nI t)), some (vI (nI v)), some (vI 0), some (vI (nI (j + 1)))]) (st' := []) (by rw [(show (nI j + 1) = nI (j + 1) from ((g_add (rfl : nI j = nI j) (show (1 : Int32) = nI 1 from rfl))).trans (congrArg nI (by omega)))]) rfl rfl ?_
    exact o1 h3
  · have h3 := Classical.not_not.mp h3
    refine g_pure 4 (i' := 73) (lv' := [some (vR 800), some (vI (nI k)), z2, some (vI (nI l)), some (vI (nI t)), some (vI (nI v)), z6, some (vI (nI j))]) (st' := [vR 800, vI (nI v), vI (nI k), vR 800]) rfl ?_
    refine g_cV1 rfl (args := [vR 800]) (rest := [vI (nI v), vI (nI k), vR 800]) rfl rfl rfl (s_248 (d := d + 7) hS) ?_
    refine g_pure 2 (i' := 76) (lv' := [some (vR 800), some (vI (nI k)), z2, some (vI (nI l)), some (vI (nI t)), some (vI (nI v)), z6, some (vI (nI j))]) (st' := [vI (S 8 + nI t), vI (nI v), vI (nI k), vR 800]) rfl ?_
    refine gW_eq (lv' := [some (vR 800), some (vI (nI k)), z2, some (vI (nI l)), some (vI (nI t)), some (vI (nI v)), z6, some (vI (nI j))]) (st' := [vI (nI (sn S 8 + t)), vI (nI v), vI (nI k), vR 800]) rfl (by rw [(show (S 8 + nI t) = nI (sn S 8 + t) from ((g_add (hI.c8) (rfl : nI t = nI t))).trans (congrArg nI (by omega)))]) rfl ?_
    refine g_cV1E rfl (args := [vR 800, vI (nI k), vI (nI v), vI (nI (sn S 8 + t))]) (rest := []) rfl rfl rfl (s_254b (d := d + 1) hI hS hA (by omega) (by omega) (by omega)) (fun s4 es4 => ?_)
    have hSs4 : s4 801 = S := by obtain ⟨f9, h9⟩ := es4; rw [h9, va_up_ne _ _ (by decide)]; exact hS
    refine g_if1 (i' := 80) (P := bd S k v (sn S 8 + t) = true) rfl rfl g_neB (fun h5 => ?_) (fun h5 => ?_)
    · refine g_pure 4 (i' := 44) (lv' := [some (vR 800), some (vI (nI k)), z2, some (vI (nI l)), some (vI (nI t)), some (vI (nI v)), some (vI 0), some (vI (nI j + 1))]) (st' := []) rfl ?_
      refine gW_eq (lv' := [some (vR 800), some (vI (nI k)), z2, some (vI (nI l)), some (vI (nI t)), some (vI (nI v)), some (vI 0), some (vI (nI (j + 1)))]) (st' := []) (by rw [(show (nI j + 1) = nI (j + 1) from ((g_add (rfl : nI j = nI j) (show (1 : Int32) = nI 1 from rfl))).trans (congrArg nI (by omega)))]) rfl rfl ?_
      exact o2 h3 s4 es4 h5
    · refine g_pure 5 (i' := 44) (lv' := [some (vR 800), some (vI (nI k)), z2, some (vI (nI l)), some (vI (nI t)), some (vI (nI v)), some (vI 1), some (vI (nI j + 1))]) (st' := []) rfl ?_
      refine gW_eq (lv' := [some (vR 800), some (vI (nI k)), z2, some (vI (nI l)), some (vI (nI t)), some (vI (nI v)), some (vI 1), some (vI (nI (j + 1)))]) (st' := []) (by rw [(show (nI j + 1) = nI (j + 1) from ((g_add (rfl : nI j = nI j) (show (1 : Int32) = nI 1 from rfl))).trans (congrArg nI (by omega)))]) rfl rfl ?_
      exact o3 h3 s4 es4 h5

theorem b_280_84 {X : Nat × (Nat → Int32)} {d : Nat} {p : Nat → Nat} {sg : Mg} {Q : am_R → Prop} {B : Nat} {S : Nat → Int32} (hI : Inv B S) (hS : sg 801 = S) {k : Nat} {z2 : Option AV} {l : Nat} {t : Nat} {v : Nat} {I : Prop} [Decidable I] {z7 : Option AV} (u_k : k ≤ 7) (u_l : l ≤ 200) (u_t : t ≤ 199) (u_v : v ≤ 5)
    (o1 : ∀ s1 : Mg, s1 = mu sg 810 (6 * t + v) (if I then 1 else 0) → gW X (d + 8) k_280 29 [some (vR 800), some (vI (nI k)), z2, some (vI (nI l)), some (vI (nI t)), some (vI (nI (v + 1))), some (vI (if I then 1 else 0)), z7] [] p s1 Q) :
    gW X (d + 8) k_280 84 [some (vR 800), some (vI (nI k)), z2, some (vI (nI l)), some (vI (nI t)), some (vI (nI v)), some (vI (if I then 1 else 0)), z7] [] p sg Q := by
  have b0 := hI.b0; have b1 := hI.b1; have b2 := hI.b2; have b3 := hI.b3; have b4 := hI.b4; have b5 := hI.b5; have b6 := hI.b6; have b7 := hI.b7; have b8 := hI.b8; have b9 := hI.b9; have b14 := hI.b14
  refine g_pure 4 (i' := 88) (lv' := [some (vR 800), some (vI (nI k)), z2, some (vI (nI l)), some (vI (nI t)), some (vI (nI v)), some (vI (if I then 1 else 0)), z7]) (st' := [vI (nI v), vI (nI t), vR 810]) rfl ?_
  refine g_cS1 rfl (args := [vI (nI t), vI (nI v)]) (rest := [vR 810]) rfl rfl rfl (s_277 (d := d + 7) (by omega) (by omega)) ?_
  refine g_pure 1 (i' := 90) (lv' := [some (vR 800), some (vI (nI k)), z2, some (vI (nI l)), some (vI (nI t)), some (vI (nI v)), some (vI (if I then 1 else 0)), z7]) (st' := [vI (if I then 1 else 0), vI (nI (6 * t + v)), vR 810]) rfl ?_
  refine g_bast3 rfl (g_A (a := 810) (kd := 3) (n := 1206) rfl (by decide)) (by decide) (show nI (6 * t + v) = nI (6 * t + v) from (rfl : nI (6 * t + v) = nI (6 * t + v))) (by omega) g_narB ?_
  refine g_setv (fun s1 es1 => ?_)
  have hSs1 : s1 801 = S := by rw [es1, mu_ne (by decide), hS]
  refine g_pure 2 (i' := 29) (lv' := [some (vR 800), some (vI (nI k)), z2, some (vI (nI l)), some (vI (nI t)), some (vI (nI v + 1)), some (vI (if I then 1 else 0)), z7]) (st' := []) rfl ?_
  refine gW_eq (lv' := [some (vR 800), some (vI (nI k)), z2, some (vI (nI l)), some (vI (nI t)), some (vI (nI (v + 1))), some (vI (if I then 1 else 0)), z7]) (st' := []) (by rw [(show (nI v + 1) = nI (v + 1) from ((g_add (rfl : nI v = nI v) (show (1 : Int32) = nI 1 from rfl))).trans (congrArg nI (by omega)))]) rfl rfl ?_
  exact o1 s1 es1

theorem b_279_0 {X : Nat × (Nat → Int32)} {d : Nat} {p : Nat → Nat} {sg : Mg} {Q : am_R → Prop} {B : Nat} {S : Nat → Int32} (hI : Inv B S) (hS : sg 801 = S) {x : Int32} {y : Int32} {z : Int32}
    (o1 : ∀ s1 : Mg, s1 = mu sg 800 0 0 → (¬ okx x (sn S 1)) → ∀ s3 : Mg, s3 = mu s1 800 0 (nI 1) → Q (gRv p s3 0))
    (o2 : ∀ s1 : Mg, s1 = mu sg 800 0 0 → ∀ n5 : Nat, x = nI n5 → n5 < sn S 1 → (¬ okx y (sn S 0)) → ∀ s7 : Mg, s7 = mu s1 800 0 (nI 1) → Q (gRv p s7 0))
    (o3 : ∀ s1 : Mg, s1 = mu sg 800 0 0 → ∀ n5 : Nat, x = nI n5 → n5 < sn S 1 → ∀ n9 : Nat, y = nI n9 → n9 < sn S 0 → (z = (-1)) → gW X (d + 11) k_279 27 [some (vR 800), some (vI (nI n5)), some (vI (nI n9)), some (vI z), none, none, none, none] [] p s1 Q)
    (o4 : ∀ s1 : Mg, s1 = mu sg 800 0 0 → ∀ n5 : Nat, x = nI n5 → n5 < sn S 1 → ∀ n9 : Nat, y = nI n9 → n9 < sn S 0 → (¬ (z = (-1))) → ∀ n13 : Nat, z = nI n13 → n13 < sn S 9 → gW X (d + 11) k_279 27 [some (vR 800), some (vI (nI n5)), some (vI (nI n9)), some (vI (nI n13)), none, none, none, none] [] p s1 Q)
    (o5 : ∀ s1 : Mg, s1 = mu sg 800 0 0 → ∀ n5 : Nat, x = nI n5 → n5 < sn S 1 → ∀ n9 : Nat, y = nI n9 → n9 < sn S 0 → (¬ (z = (-1))) → (¬ okx z (sn S 9)) → ∀ s15 : Mg, s15 = mu s1 800 0 (nI 1) → Q (gRv p s15 0)) :
    gW X (d + 11) k_279 0 [some (vR 800), some (vI x), some (vI y), some (vI z), none, none, none, none] [] p sg Q := by
  have b0 := hI.b0; have b1 := hI.b1; have b2 := hI.b2; have b3 := hI.b3; have b4 := hI.b4; have b5 := hI.b5; have b6 := hI.b6; have b7 := hI.b7; have b8 := hI.b8; have b9 := hI.b9; have b14 := hI.b14
  refine g_pure 2 (i' := 2) (lv' := [some (vR 800), some (vI x), some (vI y), some (vI z), none, none, none, none]) (st' := [vI 0, vR 800]) rfl ?_
  refine g_putI rfl (g_A (a := 800) (kd := 0) (n := 12) rfl (by decide)) ?_
  refine g_setv (fun s1 es1 => ?_)
  have hSs1 : s1 801 = S := by rw [es1, mu_ne (by decide), hS]
  refine g_pure 3 (i' := 6) (lv' := [some (vR 800), some (vI x), some (vI y), some (vI z), none, none, none, none]) (st' := [vI x, vR 800, vR 800]) rfl ?_
  refine g_cV1 rfl (args := [vR 800, vI x]) (rest := [vR 800]) rfl rfl rfl (s_237 (d := d + 9) hI hSs1) ?_
  refine g_if1 (i' := 19) (P := ¬ okx x (sn S 1)) rfl rfl g_neB (fun h2 => ?_) (fun h2 => ?_)
  · refine g_pure 3 (i' := 23) (lv' := [some (vR 800), some (vI x), some (vI y), some (vI z), none, none, none, none]) (st' := [vI 1, vI 1, vR 800]) rfl ?_
    refine gW_eq (st' := [vI (nI 1), vI 1, vR 800]) rfl (by rw [(show (1 : Int32) = nI 1 from rfl)]) rfl ?_
    refine g_cV1 rfl (args := [vR 800, vI 1, vI (nI 1)]) (rest := []) rfl rfl rfl (s_227t (d := d + 10) (by omega)) ?_
    refine g_setv (fun s3 es3 => ?_)
    have hSs3 : s3 801 = S := by rw [es3, mu_ne (by decide), hSs1]
    refine g_if1 (i' := 27) (P := 1 = 0) rfl rfl (g_eqN (show 1 = nI 1 from (show (1 : Int32) = nI 1 from rfl)) (show 0 = nI 0 from (show (0 : Int32) = nI 0 from rfl)) (by omega) (by omega)) (fun h4 => absurd h4 (by omega)) (fun _ => ?_)
    refine g_pure 1 (i' := 26) (lv' := [some (vR 800), some (vI x), some (vI y), some (vI z), none, none, none, none]) (st' := [vI 0]) rfl ?_
    refine g_iret rfl ?_
    exact o1 s1 es1 h2 s3 es3
  · have h2 := Classical.not_not.mp h2
    obtain ⟨n5, ln5, en5⟩ := okx_of h2
    subst en5
    refine g_pure 2 (i' := 10) (lv' := [some (vR 800), some (vI (nI n5)), some (vI y), some (vI z), none, none, none, none]) (st' := [vI y, vR 800, vR 800]) rfl ?_
    refine g_cV1 rfl (args := [vR 800, vI y]) (rest := [vR 800]) rfl rfl rfl (s_230 (d := d + 9) hI hSs1) ?_
    refine g_if1 (i' := 19) (P := ¬ okx y (sn S 0)) rfl rfl g_neB (fun h6 => ?_) (fun h6 => ?_)
    · refine g_pure 3 (i' := 23) (lv' := [some (vR 800), some (vI (nI n5)), some (vI y), some (vI z), none, none, none, none]) (st' := [vI 1, vI 1, vR 800]) rfl ?_
      refine gW_eq (st' := [vI (nI 1), vI 1, vR 800]) rfl (by rw [(show (1 : Int32) = nI 1 from rfl)]) rfl ?_
      refine g_cV1 rfl (args := [vR 800, vI 1, vI (nI 1)]) (rest := []) rfl rfl rfl (s_227t (d := d + 10) (by omega)) ?_
      refine g_setv (fun s7 es7 => ?_)
      have hSs7 : s7 801 = S := by rw [es7, mu_ne (by decide), hSs1]
      refine g_if1 (i' := 27) (P := 1 = 0) rfl rfl (g_eqN (show 1 = nI 1 from (show (1 : Int32) = nI 1 from rfl)) (show 0 = nI 0 from (show (0 : Int32) = nI 0 from rfl)) (by omega) (by omega)) (fun h8 => absurd h8 (by omega)) (fun _ => ?_)
      refine g_pure 1 (i' := 26) (lv' := [some (vR 800), some (vI (nI n5)), some (vI y), some (vI z), none, none, none, none]) (st' := [vI 0]) rfl ?_
      refine g_iret rfl ?_
      exact o2 s1 es1 n5 rfl ln5 h6 s7 es7
    · have h6 := Classical.not_not.mp h6
      obtain ⟨n9, ln9, en9⟩ := okx_of h6
      subst en9
      refine g_pure 2 (i' := 14) (lv' := [some (vR 800), some (vI (nI n5)), some (vI (nI n9)), some (vI z), none, none, none, none]) (st' := [vI (-1), vI z, vR 800]) rfl ?_
      refine g_if2 (i' := 21) (P := z = (-1)) rfl rfl Iff.rfl (fun h10 => ?_) (fun h10 => ?_)
      · refine g_pure 2 (i' := 23) (lv' := [some (vR 800), some (vI (nI n5)), some (vI (nI n9)), some (vI z), none, none, none, none]) (st' := [vI 1, vI 0, vR 800]) rfl ?_
        refine gW_eq (st' := [vI (nI 1), vI 0, vR 800]) rfl (by rw [(show (1 : Int32) = nI 1 from rfl)]) rfl ?_
        refine g_cV1 rfl (args := [vR 800, vI 0, vI (nI 1)]) (rest := []) rfl rfl rfl (s_227f (d := d + 10) (by omega)) ?_
        refine g_if1 (i' := 27) (P := 0 = 0) rfl rfl (g_eqN (show 0 = nI 0 from (show (0 : Int32) = nI 0 from rfl)) (show 0 = nI 0 from (show (0 : Int32) = nI 0 from rfl)) (by omega) (by omega)) (fun _ => ?_) (fun h11 => absurd (by omega) h11)
        exact o3 s1 es1 n5 rfl ln5 n9 rfl ln9 h10
      · refine g_pure 2 (i' := 17) (lv' := [some (vR 800), some (vI (nI n5)), some (vI (nI n9)), some (vI z), none, none, none, none]) (st' := [vI z, vR 800, vR 800]) rfl ?_
        refine g_cV1 rfl (args := [vR 800, vI z]) (rest := [vR 800]) rfl rfl rfl (s_234 (d := d + 9) hI hSs1) ?_
        refine g_if1 (i' := 21) (P := okx z (sn S 9)) rfl rfl (g_eqB.trans Classical.not_not) (fun h12 => ?_) (fun h12 => ?_)
        · obtain ⟨n13, ln13, en13⟩ := okx_of h12
          subst en13
          refine g_pure 2 (i' := 23) (lv' := [some (vR 800), some (vI (nI n5)), some (vI (nI n9)), some (vI (nI n13)), none, none, none, none]) (st' := [vI 1, vI 0, vR 800]) rfl ?_
          refine gW_eq (st' := [vI (nI 1), vI 0, vR 800]) rfl (by rw [(show (1 : Int32) = nI 1 from rfl)]) rfl ?_
          refine g_cV1 rfl (args := [vR 800, vI 0, vI (nI 1)]) (rest := []) rfl rfl rfl (s_227f (d := d + 10) (by omega)) ?_
          refine g_if1 (i' := 27) (P := 0 = 0) rfl rfl (g_eqN (show 0 = nI 0 from (show (0 : Int32) = nI 0 from rfl)) (show 0 = nI 0 from (show (0 : Int32) = nI 0 from rfl)) (by omega) (by omega)) (fun _ => ?_) (fun h14 => absurd (by omega) h14)
          exact o4 s1 es1 n5 rfl ln5 n9 rfl ln9 h10 n13 rfl ln13
        · refine g_pure 3 (i' := 23) (lv' := [some (vR 800), some (vI (nI n5)), some (vI (nI n9)), some (vI z), none, none, none, none]) (st' := [vI 1, vI 1, vR 800]) rfl ?_
          refine gW_eq (st' := [vI (nI 1), vI 1, vR 800]) rfl (by rw [(show (1 : Int32) = nI 1 from rfl)]) rfl ?_
          refine g_cV1 rfl (args := [vR 800, vI 1, vI (nI 1)]) (rest := []) rfl rfl rfl (s_227t (d := d + 10) (by omega)) ?_
          refine g_setv (fun s15 es15 => ?_)
          have hSs15 : s15 801 = S := by rw [es15, mu_ne (by decide), hSs1]
          refine g_if1 (i' := 27) (P := 1 = 0) rfl rfl (g_eqN (show 1 = nI 1 from (show (1 : Int32) = nI 1 from rfl)) (show 0 = nI 0 from (show (0 : Int32) = nI 0 from rfl)) (by omega) (by omega)) (fun h16 => absurd h16 (by omega)) (fun _ => ?_)
          refine g_pure 1 (i' := 26) (lv' := [some (vR 800), some (vI (nI n5)), some (vI (nI n9)), some (vI z), none, none, none, none]) (st' := [vI 0]) rfl ?_
          refine g_iret rfl ?_
          exact o5 s1 es1 n5 rfl ln5 n9 rfl ln9 h10 h12 s15 es15

theorem b_279_m {X : Nat × (Nat → Int32)} {d : Nat} {p : Nat → Nat} {sg : Mg} {Q : am_R → Prop} {B : Nat} {S : Nat → Int32} (hI : Inv B S) (hS : sg 801 = S) {k : Nat} {w : Nat} {z3 : Option AV} (u_k : k ≤ 7) (u_w : w ≤ 5)
    (o1 : Q (gRv p sg (-1))) :
    gW X (d + 11) k_279 33 [some (vR 800), some (vI (nI k)), some (vI (nI w)), z3, some (vI (-1)), none, none, none] [] p sg Q := by
  have b0 := hI.b0; have b1 := hI.b1; have b2 := hI.b2; have b3 := hI.b3; have b4 := hI.b4; have b5 := hI.b5; have b6 := hI.b6; have b7 := hI.b7; have b8 := hI.b8; have b9 := hI.b9; have b14 := hI.b14
  refine g_pure 3 (i' := 36) (lv' := [some (vR 800), some (vI (nI k)), some (vI (nI w)), z3, some (vI (-1)), none, none, none]) (st' := [vI 0, vI (nI k), vR 800]) rfl ?_
  refine gW_eq (st' := [vI (nI 0), vI (nI k), vR 800]) rfl (by rw [(show (0 : Int32) = nI 0 from rfl)]) rfl ?_
  refine g_cV1 rfl (args := [vR 800, vI (nI k), vI (nI 0)]) (rest := []) rfl rfl rfl (s_238 (d := d + 10) hS (by omega) (by omega)) ?_
  refine gW_eq (st' := [vI (S (113 + 6 * k))]) rfl (by rw [show S (113 + 6 * k + 0) = S (113 + 6 * k) from congrArg S (by omega)]) rfl ?_
  refine g_pure 2 (i' := 39) (lv' := [some (vR 800), some (vI (nI k)), some (vI (nI w)), z3, some (vI (-1)), some (vI (S (113 + 6 * k))), none, none]) (st' := [vI (-1)]) rfl ?_
  refine g_if1 (i' := 45) (P := ((-1) : Int32) < 0) rfl rfl Iff.rfl (fun _ => ?_) (fun h1 => absurd (by decide) h1)
  refine g_pure 1 (i' := 46) (lv' := [some (vR 800), some (vI (nI k)), some (vI (nI w)), z3, some (vI (-1)), some (vI (S (113 + 6 * k))), none, none]) (st' := [vI (-1)]) rfl ?_
  refine g_iret rfl ?_
  exact o1

theorem b_279_v {X : Nat × (Nat → Int32)} {d : Nat} {p : Nat → Nat} {sg : Mg} {Q : am_R → Prop} {B : Nat} {S : Nat → Int32} (hI : Inv B S) (hS : sg 801 = S) {h : Nat} {k : Nat} {w : Nat} {z3 : Option AV} {l : Nat} (u_k : k ≤ 7) (u_w : w ≤ 5) (u_l : l ≤ 200) (q1 : h ≤ 5) (hh : S (113 + 6 * k) = nI h)
    (o1 : (¬ h = w) → gW X (d + 11) k_279 47 [some (vR 800), some (vI (nI k)), some (vI (nI w)), z3, some (vI (nI l)), some (vI (nI h)), none, none] [] p sg Q)
    (o2 : (h = w) → Q (gRv p sg (-1))) :
    gW X (d + 11) k_279 33 [some (vR 800), some (vI (nI k)), some (vI (nI w)), z3, some (vI (nI l)), none, none, none] [] p sg Q := by
  have b0 := hI.b0; have b1 := hI.b1; have b2 := hI.b2; have b3 := hI.b3; have b4 := hI.b4; have b5 := hI.b5; have b6 := hI.b6; have b7 := hI.b7; have b8 := hI.b8; have b9 := hI.b9; have b14 := hI.b14
  refine g_pure 3 (i' := 36) (lv' := [some (vR 800), some (vI (nI k)), some (vI (nI w)), z3, some (vI (nI l)), none, none, none]) (st' := [vI 0, vI (nI k), vR 800]) rfl ?_
  refine gW_eq (st' := [vI (nI 0), vI (nI k), vR 800]) rfl (by rw [(show (0 : Int32) = nI 0 from rfl)]) rfl ?_
  refine g_cV1 rfl (args := [vR 800, vI (nI k), vI (nI 0)]) (rest := []) rfl rfl rfl (s_238 (d := d + 10) hS (by omega) (by omega)) ?_
  refine gW_eq (st' := [vI (S (113 + 6 * k))]) rfl (by rw [show S (113 + 6 * k + 0) = S (113 + 6 * k) from congrArg S (by omega)]) rfl ?_
  refine gW_eq (st' := [vI (nI h)]) rfl (by rw [show S (113 + 6 * k) = nI h from hh]) rfl ?_
  refine g_pure 2 (i' := 39) (lv' := [some (vR 800), some (vI (nI k)), some (vI (nI w)), z3, some (vI (nI l)), some (vI (nI h)), none, none]) (st' := [vI (nI l)]) rfl ?_
  refine g_if1 (i' := 45) (P := l < 0) rfl rfl (g_ltN (show nI l = nI l from (rfl : nI l = nI l)) (show 0 = nI 0 from (show (0 : Int32) = nI 0 from rfl)) (by omega) (by omega)) (fun h1 => absurd h1 (by omega)) (fun _ => ?_)
  refine g_pure 1 (i' := 41) (lv' := [some (vR 800), some (vI (nI k)), some (vI (nI w)), z3, some (vI (nI l)), some (vI (nI h)), none, none]) (st' := [vI (nI h)]) rfl ?_
  refine g_if1 (i' := 45) (P := h < 0) rfl rfl (g_ltN (show nI h = nI h from (rfl : nI h = nI h)) (show 0 = nI 0 from (show (0 : Int32) = nI 0 from rfl)) (by omega) (by omega)) (fun h2 => absurd h2 (by omega)) (fun _ => ?_)
  refine g_pure 2 (i' := 44) (lv' := [some (vR 800), some (vI (nI k)), some (vI (nI w)), z3, some (vI (nI l)), some (vI (nI h)), none, none]) (st' := [vI (nI w), vI (nI h)]) rfl ?_
  refine g_if2 (i' := 47) (P := ¬ h = w) rfl rfl (g_neN (show nI h = nI h from (rfl : nI h = nI h)) (show nI w = nI w from (rfl : nI w = nI w)) (by omega) (by omega)) (fun h3 => ?_) (fun h3 => ?_)
  · exact o1 h3
  · have h3 := Classical.not_not.mp h3
    refine g_pure 1 (i' := 46) (lv' := [some (vR 800), some (vI (nI k)), some (vI (nI w)), z3, some (vI (nI l)), some (vI (nI h)), none, none]) (st' := [vI (-1)]) rfl ?_
    refine g_iret rfl ?_
    exact o2 h3

theorem b_279_x {X : Nat × (Nat → Int32)} {d : Nat} {p : Nat → Nat} {sg : Mg} {Q : am_R → Prop} {B : Nat} {S : Nat → Int32} (hI : Inv B S) (hS : sg 801 = S) {k : Nat} {w : Nat} {z3 : Option AV} {l : Nat} (u_k : k ≤ 7) (u_w : w ≤ 5) (u_l : l ≤ 200) (hh : S (113 + 6 * k) = -1)
    (o1 : Q (gRv p sg (-1))) :
    gW X (d + 11) k_279 33 [some (vR 800), some (vI (nI k)), some (vI (nI w)), z3, some (vI (nI l)), none, none, none] [] p sg Q := by
  have b0 := hI.b0; have b1 := hI.b1; have b2 := hI.b2; have b3 := hI.b3; have b4 := hI.b4; have b5 := hI.b5; have b6 := hI.b6; have b7 := hI.b7; have b8 := hI.b8; have b9 := hI.b9; have b14 := hI.b14
  refine g_pure 3 (i' := 36) (lv' := [some (vR 800), some (vI (nI k)), some (vI (nI w)), z3, some (vI (nI l)), none, none, none]) (st' := [vI 0, vI (nI k), vR 800]) rfl ?_
  refine gW_eq (st' := [vI (nI 0), vI (nI k), vR 800]) rfl (by rw [(show (0 : Int32) = nI 0 from rfl)]) rfl ?_
  refine g_cV1 rfl (args := [vR 800, vI (nI k), vI (nI 0)]) (rest := []) rfl rfl rfl (s_238 (d := d + 10) hS (by omega) (by omega)) ?_
  refine gW_eq (st' := [vI (S (113 + 6 * k))]) rfl (by rw [show S (113 + 6 * k + 0) = S (113 + 6 * k) from congrArg S (by omega)]) rfl ?_
  refine gW_eq (st' := [vI (-1)]) rfl (by rw [show S (113 + 6 * k) = (-1) from hh]) rfl ?_
  refine g_pure 2 (i' := 39) (lv' := [some (vR 800), some (vI (nI k)), some (vI (nI w)), z3, some (vI (nI l)), some (vI (-1)), none, none]) (st' := [vI (nI l)]) rfl ?_
  refine g_if1 (i' := 45) (P := l < 0) rfl rfl (g_ltN (show nI l = nI l from (rfl : nI l = nI l)) (show 0 = nI 0 from (show (0 : Int32) = nI 0 from rfl)) (by omega) (by omega)) (fun h1 => absurd h1 (by omega)) (fun _ => ?_)
  refine g_pure 1 (i' := 41) (lv' := [some (vR 800), some (vI (nI k)), some (vI (nI w)), z3, some (vI (nI l)), some (vI (-1)), none, none]) (st' := [vI (-1)]) rfl ?_
  refine g_if1 (i' := 45) (P := ((-1) : Int32) < 0) rfl rfl Iff.rfl (fun _ => ?_) (fun h2 => absurd (by decide) h2)
  refine g_pure 1 (i' := 46) (lv' := [some (vR 800), some (vI (nI k)), some (vI (nI w)), z3, some (vI (nI l)), some (vI (-1)), none, none]) (st' := [vI (-1)]) rfl ?_
  refine g_iret rfl ?_
  exact o1

theorem b_279_56 {X : Nat × (Nat → Int32)} {d : Nat} {p : Nat → Nat} {sg : Mg} {Q : am_R → Prop} {B : Nat} {S : Nat → Int32} (hI : Inv B S) (hS : sg 801 = S) {k : Nat} {z2 : Option AV} {z3 : Option AV} {l : Nat} {h : Nat} {t : Nat} {z7 : Option AV} (u_k : k ≤ 7) (u_l : l ≤ 200) (u_h : h ≤ 5) (u_t : t ≤ 199)
    (o1 : gW X (d + 11) k_279 60 [some (vR 800), some (vI (nI k)), z2, z3, some (vI (nI l)), some (vI (nI h)), some (vI (nI t)), some (vI 0)] [] p sg Q) :
    gW X (d + 11) k_279 56 [some (vR 800), some (vI (nI k)), z2, z3, some (vI (nI l)), some (vI (nI h)), some (vI (nI t)), z7] [] p sg Q := by
  have b0 := hI.b0; have b1 := hI.b1; have b2 := hI.b2; have b3 := hI.b3; have b4 := hI.b4; have b5 := hI.b5; have b6 := hI.b6; have b7 := hI.b7; have b8 := hI.b8; have b9 := hI.b9; have b14 := hI.b14
  refine g_pure 1 (i' := 57) (lv' := [some (vR 800), some (vI (nI k)), z2, z3, some (vI (nI l)), some (vI (nI h)), some (vI (nI t)), z7]) (st' := [vI (nI t)]) rfl ?_
  refine g_if1 (i' := 98) (P := t < 0) rfl rfl (g_ltN (show nI t = nI t from (rfl : nI t = nI t)) (show 0 = nI 0 from (show (0 : Int32) = nI 0 from rfl)) (by omega) (by omega)) (fun h1 => absurd h1 (by omega)) (fun _ => ?_)
  refine g_pure 2 (i' := 60) (lv' := [some (vR 800), some (vI (nI k)), z2, z3, some (vI (nI l)), some (vI (nI h)), some (vI (nI t)), some (vI 0)]) (st' := []) rfl ?_
  exact o1

theorem b_279_56x {X : Nat × (Nat → Int32)} {d : Nat} {p : Nat → Nat} {sg : Mg} {Q : am_R → Prop} {B : Nat} {S : Nat → Int32} (hI : Inv B S) (hS : sg 801 = S) {k : Nat} {z2 : Option AV} {z3 : Option AV} {l : Nat} {h : Nat} {z7 : Option AV} (u_k : k ≤ 7) (u_l : l ≤ 200) (u_h : h ≤ 5)
    (o1 : Q (gRv p sg (-1))) :
    gW X (d + 11) k_279 56 [some (vR 800), some (vI (nI k)), z2, z3, some (vI (nI l)), some (vI (nI h)), some (vI (-1)), z7] [] p sg Q := by
  have b0 := hI.b0; have b1 := hI.b1; have b2 := hI.b2; have b3 := hI.b3; have b4 := hI.b4; have b5 := hI.b5; have b6 := hI.b6; have b7 := hI.b7; have b8 := hI.b8; have b9 := hI.b9; have b14 := hI.b14
  refine g_pure 1 (i' := 57) (lv' := [some (vR 800), some (vI (nI k)), z2, z3, some (vI (nI l)), some (vI (nI h)), some (vI (-1)), z7]) (st' := [vI (-1)]) rfl ?_
  refine g_if1 (i' := 98) (P := ((-1) : Int32) < 0) rfl rfl Iff.rfl (fun _ => ?_) (fun h1 => absurd (by decide) h1)
  refine g_pure 1 (i' := 99) (lv' := [some (vR 800), some (vI (nI k)), z2, z3, some (vI (nI l)), some (vI (nI h)), some (vI (-1)), z7]) (st' := [vI (-1)]) rfl ?_
  refine g_iret rfl ?_
  exact o1

theorem b_279_60 {X : Nat × (Nat → Int32)} {d : Nat} {p : Nat → Nat} {sg : Mg} {Q : am_R → Prop} {B : Nat} {S : Nat → Int32} (hI : Inv B S) (hS : sg 801 = S) {k : Nat} {z2 : Option AV} {z3 : Option AV} {l : Nat} {h : Nat} {t : Nat} {j : Nat} (u_k : k ≤ 7) (u_l : l ≤ 200) (u_h : h ≤ 5) (u_t : t ≤ 199) (u_j : j ≤ 12) (q1 : h < sn S 0)
    (o1 : (sn S 3 ≤ j) → gW X (d + 11) k_279 56 [some (vR 800), some (vI (nI k)), z2, z3, some (vI (nI l)), some (vI (nI h)), some (vI (nI t + -1)), some (vI (nI j))] [] p sg Q)
    (o2 : (¬ (sn S 3 ≤ j)) → (otP S j h) → gW X (d + 11) k_279 69 [some (vR 800), some (vI (nI k)), z2, z3, some (vI (nI l)), some (vI (nI h)), some (vI (nI t)), some (vI (nI j))] [] p sg Q)
    (o3 : (¬ (sn S 3 ≤ j)) → (¬ otP S j h) → gW X (d + 11) k_279 60 [some (vR 800), some (vI (nI k)), z2, z3, some (vI (nI l)), some (vI (nI h)), some (vI (nI t)), some (vI (nI (j + 1)))] [] p sg Q) :
    gW X (d + 11) k_279 60 [some (vR 800), some (vI (nI k)), z2, z3, some (vI (nI l)), some (vI (nI h)), some (vI (nI t)), some (vI (nI j))] [] p sg Q := by
  have b0 := hI.b0; have b1 := hI.b1; have b2 := hI.b2; have b3 := hI.b3; have b4 := hI.b4; have b5 := hI.b5; have b6 := hI.b6; have b7 := hI.b7; have b8 := hI.b8; have b9 := hI.b9; have b14 := hI.b14
  refine g_pure 2 (i' := 62) (lv' := [some (vR 800), some (vI (nI k)), z2, z3, some (vI (nI l)), some (vI (nI h)), some (vI (nI t)), some (vI (nI j))]) (st' := [vR 800, vI (nI j)]) rfl ?_
  refine g_cV1 rfl (args := [vR 800]) (rest := [vI (nI j)]) rfl rfl rfl (s_209 (d := d + 10) hS) ?_
  refine g_if2 (i' := 96) (P := sn S 3 ≤ j) rfl rfl (g_geN (show nI j = nI j from (rfl : nI j = nI j)) (show S 3 = nI (sn S 3) from (hI.c3)) (by omega) (by omega)) (fun h1 => ?_) (fun h1 => ?_)
  · refine g_pure 2 (i' := 56) (lv' := [some (vR 800), some (vI (nI k)), z2, z3, some (vI (nI l)), some (vI (nI h)), some (vI (nI t + -1)), some (vI (nI j))]) (st' := []) rfl ?_
    exact o1 h1
  · refine g_pure 3 (i' := 67) (lv' := [some (vR 800), some (vI (nI k)), z2, z3, some (vI (nI l)), some (vI (nI h)), some (vI (nI t)), some (vI (nI j))]) (st' := [vI (nI h), vI (nI j), vR 800]) rfl ?_
    by_cases h2 : otP S j h
    · refine g_cV1 rfl (args := [vR 800, vI (nI j), vI (nI h)]) (rest := []) rfl rfl rfl (s_253o (d := d + 9) hI hS (by omega) (by omega) (by omega) (by assumption)) ?_
      have t3 := otN_lt hI (r := j) (by omega) h
      refine g_if1 (i' := 94) (P := otN S j h < 0) rfl rfl (g_ltN (show nI (otN S j h) = nI (otN S j h) from (rfl : nI (otN S j h) = nI (otN S j h))) (show 0 = nI 0 from (show (0 : Int32) = nI 0 from rfl)) (by omega) (by omega)) (fun h4 => absurd h4 (by omega)) (fun _ => ?_)
      exact o2 h1 h2
    · refine g_cV1 rfl (args := [vR 800, vI (nI j), vI (nI h)]) (rest := []) rfl rfl rfl (s_253x (d := d + 9) hI hS (by omega) (by omega) (by omega) (by assumption)) ?_
      refine g_if1 (i' := 94) (P := ((-1) : Int32) < 0) rfl rfl Iff.rfl (fun _ => ?_) (fun h5 => absurd (by decide) h5)
      refine g_pure 2 (i' := 60) (lv' := [some (vR 800), some (vI (nI k)), z2, z3, some (vI (nI l)), some (vI (nI h)), some (vI (nI t)), some (vI (nI j + 1))]) (st' := []) rfl ?_
      refine gW_eq (lv' := [some (vR 800), some (vI (nI k)), z2, z3, some (vI (nI l)), some (vI (nI h)), some (vI (nI t)), some (vI (nI (j + 1)))]) (st' := []) (by rw [(show (nI j + 1) = nI (j + 1) from ((g_add (rfl : nI j = nI j) (show (1 : Int32) = nI 1 from rfl))).trans (congrArg nI (by omega)))]) rfl rfl ?_
      exact o3 h1 h2

theorem b_279_69 {X : Nat × (Nat → Int32)} {d : Nat} {p : Nat → Nat} {sg : Mg} {Q : am_R → Prop} {B : Nat} {S : Nat → Int32} (hI : Inv B S) (hS : sg 801 = S) {C : Nat → Bool} (hA : InvA S) (hC : cnM 810 1206 sg C) {k : Nat} {z2 : Option AV} {z3 : Option AV} {l : Nat} {h : Nat} {t : Nat} {j : Nat} (u_k : k ≤ 7) (u_l : l ≤ 200) (u_h : h ≤ 5) (u_t : t ≤ 199) (u_j : j ≤ 11) (q1 : k < sn S 1) (q2 : h < sn S 0) (q3 : j < sn S 3) (hO : otP S j h)
    (o1 : (¬ ((t + sn S (177 + 3 * j + 2)) ≤ l ∧ C (6 * (t + sn S (177 + 3 * j + 2)) + (otN S j h)) = true)) → gW X (d + 11) k_279 60 [some (vR 800), some (vI (nI k)), z2, z3, some (vI (nI l)), some (vI (nI h)), some (vI (nI t)), some (vI (nI (j + 1)))] [] p sg Q)
    (o2 : (((t + sn S (177 + 3 * j + 2)) ≤ l ∧ C (6 * (t + sn S (177 + 3 * j + 2)) + (otN S j h)) = true)) → ∀ s4 : Mg, (∃ f, s4 = va_up sg 807 f) → (bd S k h (sn S 8 + t) = true) → gW X (d + 11) k_279 60 [some (vR 800), some (vI (nI k)), z2, z3, some (vI (nI l)), some (vI (nI h)), some (vI (nI t)), some (vI (nI (j + 1)))] [] p s4 Q)
    (o3 : (((t + sn S (177 + 3 * j + 2)) ≤ l ∧ C (6 * (t + sn S (177 + 3 * j + 2)) + (otN S j h)) = true)) → ∀ s4 : Mg, (∃ f, s4 = va_up sg 807 f) → (¬ (bd S k h (sn S 8 + t) = true)) → Q (gRv p s4 (nI j))) :
    gW X (d + 11) k_279 69 [some (vR 800), some (vI (nI k)), z2, z3, some (vI (nI l)), some (vI (nI h)), some (vI (nI t)), some (vI (nI j))] [] p sg Q := by
  have b0 := hI.b0; have b1 := hI.b1; have b2 := hI.b2; have b3 := hI.b3; have b4 := hI.b4; have b5 := hI.b5; have b6 := hI.b6; have b7 := hI.b7; have b8 := hI.b8; have b9 := hI.b9; have b14 := hI.b14
  refine g_pure 5 (i' := 74) (lv' := [some (vR 800), some (vI (nI k)), z2, z3, some (vI (nI l)), some (vI (nI h)), some (vI (nI t)), some (vI (nI j))]) (st' := [vI 2, vI (nI j), vR 800, vI (nI t), vR 800]) rfl ?_
  refine gW_eq (st' := [vI (nI 2), vI (nI j), vR 800, vI (nI t), vR 800]) rfl (by rw [(show (2 : Int32) = nI 2 from rfl)]) rfl ?_
  refine g_cV1 rfl (args := [vR 800, vI (nI j), vI (nI 2)]) (rest := [vI (nI t), vR 800]) rfl rfl rfl (s_241 (d := d + 10) hS (by omega) (by omega)) ?_
  have t1 := (hI.roa (k := j) (by omega)).2.2.1
  have t1b := t1.2
  refine g_pure 4 (i' := 79) (lv' := [some (vR 800), some (vI (nI k)), z2, z3, some (vI (nI l)), some (vI (nI h)), some (vI (nI t)), some (vI (nI j))]) (st' := [vI (nI h), vI (nI j), vR 800, vI (nI t + S (177 + 3 * j + 2)), vR 800]) rfl ?_
  refine gW_eq (lv' := [some (vR 800), some (vI (nI k)), z2, z3, some (vI (nI l)), some (vI (nI h)), some (vI (nI t)), some (vI (nI j))]) (st' := [vI (nI h), vI (nI j), vR 800, vI (nI (t + sn S (177 + 3 * j + 2))), vR 800]) rfl (by rw [(show (nI t + S (177 + 3 * j + 2)) = nI (t + sn S (177 + 3 * j + 2)) from ((g_add (rfl : nI t = nI t) t1.1)).trans (congrArg nI (by omega)))]) rfl ?_
  refine g_cV1 rfl (args := [vR 800, vI (nI j), vI (nI h)]) (rest := [vI (nI (t + sn S (177 + 3 * j + 2))), vR 800]) rfl rfl rfl (s_253o (d := d + 9) hI hS (by omega) (by omega) (by omega) hO) ?_
  have t2 := otN_lt hI (r := j) (by omega) h
  refine g_pure 1 (i' := 81) (lv' := [some (vR 800), some (vI (nI k)), z2, z3, some (vI (nI l)), some (vI (nI h)), some (vI (nI t)), some (vI (nI j))]) (st' := [vI (nI l), vI (nI (otN S j h)), vI (nI (t + sn S (177 + 3 * j + 2))), vR 800]) rfl ?_
  refine g_cV1 rfl (args := [vR 800, vI (nI (t + sn S (177 + 3 * j + 2))), vI (nI (otN S j h)), vI (nI l)]) (rest := []) rfl rfl rfl (s_281 (d := d + 9) hI hS hC (by omega) (by omega) (by omega)) ?_
  refine g_if1 (i' := 94) (P := ¬ ((t + sn S (177 + 3 * j + 2)) ≤ l ∧ C (6 * (t + sn S (177 + 3 * j + 2)) + (otN S j h)) = true)) rfl rfl g_eqB (fun h3 => ?_) (fun h3 => ?_)
  · refine g_pure 2 (i' := 60) (lv' := [some (vR 800), some (vI (nI k)), z2, z3, some (vI (nI l)), some (vI (nI h)), some (vI (nI t)), some (vI (nI j + 1))]) (st' := []) rfl ?_
    refine gW_eq (lv' := [some (vR 800), some (vI (nI k)), z2, z3, some (vI (nI l)), some (vI (nI h)), some (vI (nI t)), some (vI (nI (j + 1)))]) (st' := []) (by rw [(show (nI j + 1) = nI (j + 1) from ((g_add (rfl : nI j = nI j) (show (1 : Int32) = nI 1 from rfl))).trans (congrArg nI (by omega)))]) rfl rfl ?_
    exact o1 h3
  · have h3 := Classical.not_not.mp h3
    refine g_pure 4 (i' := 87) (lv' := [some (vR 800), some (vI (nI k)), z2, z3, some (vI (nI l)), some (vI (nI h)), some (vI (nI t)), some (vI (nI j))]) (st' := [vR 800, vI (nI h), vI (nI k), vR 800]) rfl ?_
    refine g_cV1 rfl (args := [vR 800]) (rest := [vI (nI h), vI (nI k), vR 800]) rfl rfl rfl (s_248 (d := d + 10) hS) ?_
    refine g_pure 2 (i' := 90) (lv' := [some (vR 800), some (vI (nI k)), z2, z3, some (vI (nI l)), some (vI (nI h)), some (vI (nI t)), some (vI (nI j))]) (st' := [vI (S 8 + nI t), vI (nI h), vI (nI k), vR 800]) rfl ?_
    refine gW_eq (lv' := [some (vR 800), some (vI (nI k)), z2, z3, some (vI (nI l)), some (vI (nI h)), some (vI (nI t)), some (vI (nI j))]) (st' := [vI (nI (sn S 8 + t)), vI (nI h), vI (nI k), vR 800]) rfl (by rw [(show (S 8 + nI t) = nI (sn S 8 + t) from ((g_add (hI.c8) (rfl : nI t = nI t))).trans (congrArg nI (by omega)))]) rfl ?_
    refine g_cV1E rfl (args := [vR 800, vI (nI k), vI (nI h), vI (nI (sn S 8 + t))]) (rest := []) rfl rfl rfl (s_254b (d := d + 4) hI hS hA (by omega) (by omega) (by omega)) (fun s4 es4 => ?_)
    have hSs4 : s4 801 = S := by obtain ⟨f9, h9⟩ := es4; rw [h9, va_up_ne _ _ (by decide)]; exact hS
    refine g_if1 (i' := 94) (P := bd S k h (sn S 8 + t) = true) rfl rfl g_neB (fun h5 => ?_) (fun h5 => ?_)
    · refine g_pure 2 (i' := 60) (lv' := [some (vR 800), some (vI (nI k)), z2, z3, some (vI (nI l)), some (vI (nI h)), some (vI (nI t)), some (vI (nI j + 1))]) (st' := []) rfl ?_
      refine gW_eq (lv' := [some (vR 800), some (vI (nI k)), z2, z3, some (vI (nI l)), some (vI (nI h)), some (vI (nI t)), some (vI (nI (j + 1)))]) (st' := []) (by rw [(show (nI j + 1) = nI (j + 1) from ((g_add (rfl : nI j = nI j) (show (1 : Int32) = nI 1 from rfl))).trans (congrArg nI (by omega)))]) rfl rfl ?_
      exact o2 h3 s4 es4 h5
    · refine g_pure 1 (i' := 93) (lv' := [some (vR 800), some (vI (nI k)), z2, z3, some (vI (nI l)), some (vI (nI h)), some (vI (nI t)), some (vI (nI j))]) (st' := [vI (nI j)]) rfl ?_
      refine g_iret rfl ?_
      exact o3 h3 s4 es4 h5

/-- what leads on, in the reference's row -/
def ldI (S : Nat → Int32) (k l w : Nat) (C : Nat → Bool) (t j : Nat) : Prop := ∀ t' v', v' < sn S 0 → t' ≤ l → (t < t' ∨ (t' = t ∧ v' < j)) → (C (6 * t' + v') = true ↔ Led S k (sn S 8 + l) w (sn S 8 + t') v')
def stB (C : Nat → Bool) (i : Nat) (b : Bool) (x : Nat) : Bool := if x = i then b else C x
theorem cnM.st {a n : Nat} {s : Mg} {C : Nat → Bool} (h : cnM a n s C) {i : Nat} {b : Bool} : cnM a n (mu s a i (if b = true then 1 else 0)) (stB C i b) := fun x hx => by
  unfold stB
  by_cases e : x = i
  · subst e
    rw [mu_self, if_pos rfl]
  · rw [mu_idx e, if_neg e]
    exact h x hx
theorem ldI.step {S : Nat → Int32} {k l w t v : Nat} {C : Nat → Bool} (h : ldI S k l w C t v) (h6 : sn S 0 ≤ 6) (hv : v < sn S 0) {b : Bool} (hb : b = true ↔ Led S k (sn S 8 + l) w (sn S 8 + t) v) : ldI S k l w (stB C (6 * t + v) b) t (v + 1) := by
  intro t' v' hv' ht' hc
  unfold stB
  by_cases e : t' = t ∧ v' = v
  · obtain ⟨rfl, rfl⟩ := e
    rw [if_pos rfl]
    exact hb
  · rw [if_neg (by omega)]
    exact h t' v' hv' ht' (by omega)
def S0 (sg s : Mg) : Prop := ∀ c, c ≠ 807 → c ≠ 810 → s c = sg c
theorem S0.rf (sg : Mg) : S0 sg sg := fun _ _ _ => rfl
theorem S0.tr {a b c : Mg} (h : S0 a b) (g : S0 b c) : S0 a c := fun x h1 h2 => (g x h1 h2).trans (h x h1 h2)
theorem S0.S {sg s : Mg} {S : Nat → Int32} (h : S0 sg s) (hS : sg 801 = S) : s 801 = S := by rw [h 801 (by decide) (by decide)]; exact hS
theorem S0.up7 {sg s : Mg} (h : ∃ f, s = va_up sg 807 f) : S0 sg s ∧ s 810 = sg 810 := by
  obtain ⟨f, rfl⟩ := h
  exact ⟨fun c c1 _ => va_up_ne _ _ c1, va_up_ne _ _ (by decide)⟩
theorem l_280_44 {X : Nat × (Nat → Int32)} {d : Nat} {p : Nat → Nat} {sg : Mg} {B : Nat} {S : Nat → Int32} (hI : Inv B S) (hS : sg 801 = S) (hA : InvA S) {Q : am_R → Prop} {k l w t v : Nat} {C : Nat → Bool} (hk : k < sn S 1) (hl : l ≤ 200) (ht : t < l) (hv : v < sn S 0) (hC : cnM 810 1206 sg C) (hP : ldI S k l w C t v) {z2 : Option AV}
    (x : ∀ s b z7, S0 sg s → cnM 810 1206 s C → (b = true ↔ Led S k (sn S 8 + l) w (sn S 8 + t) v) → gW X (d + 8) k_280 84 [some (vR 800), some (vI (nI k)), z2, some (vI (nI l)), some (vI (nI t)), some (vI (nI v)), some (vI (if b = true then 1 else 0)), z7] [] p s Q) :
    gW X (d + 8) k_280 44 [some (vR 800), some (vI (nI k)), z2, some (vI (nI l)), some (vI (nI t)), some (vI (nI v)), some (vI (if C (6 * (t + 1) + v) = true then 1 else 0)), some (vI (nI 0))] [] p sg Q := by
  have b0 := hI.b0; have b1 := hI.b1; have b3 := hI.b3
  have h1 := hP (t + 1) v hv (by omega) (Or.inl (by omega))
  have key := g_upI (P := fun j => ∀ s b, S0 sg s → cnM 810 1206 s C → (b = true ↔ Led S k (sn S 8 + l) w (sn S 8 + (t + 1)) v ∨ ∃ r, r < j ∧ otP S r v ∧ bd S k v (sn S 8 + t) = false ∧ Led S k (sn S 8 + l) w (sn S 8 + t + sn S (177 + 3 * r + 2)) (otN S r v)) → gW X (d + 8) k_280 44 [some (vR 800), some (vI (nI k)), z2, some (vI (nI l)), some (vI (nI t)), some (vI (nI v)), some (vI (if b = true then 1 else 0)), some (vI (nI j))] [] p s Q) (I := fun _ => True) (n := sn S 3) (a := 0) (by omega) trivial ?_ ?_
  · exact key sg _ (S0.rf _) hC ⟨fun h => Or.inl (h1.mp h), fun h => h.elim h1.mpr (fun ⟨r, hr, _⟩ => absurd hr (Nat.not_lt_zero _))⟩
  · intro j _ hj _ ih s b hs hM hb
    have ih := ih trivial
    have led : b = true → Led S k (sn S 8 + l) w (sn S 8 + t) v := fun h => (hb.mp h).elim (fun h => h.wait) (fun ⟨r, hr, ho, hb, h⟩ => h.go hb (by omega) ho)
    have keep : ¬ (b = true) → ¬ (otP S j v ∧ bd S k v (sn S 8 + t) = false ∧ Led S k (sn S 8 + l) w (sn S 8 + t + sn S (177 + 3 * j + 2)) (otN S j v)) → (false = true ↔ Led S k (sn S 8 + l) w (sn S 8 + (t + 1)) v ∨ ∃ r, r < j + 1 ∧ otP S r v ∧ bd S k v (sn S 8 + t) = false ∧ Led S k (sn S 8 + l) w (sn S 8 + t + sn S (177 + 3 * r + 2)) (otN S r v)) := fun h1 h2 => ⟨fun h => (by cases h), fun h => by
      refine absurd (hb.mpr (h.imp id (fun ⟨r, hr, g⟩ => ?_))) h1
      by_cases e : r = j
      · subst e; exact absurd g h2
      · exact ⟨r, by omega, g⟩⟩
    refine b_280_44 hI (hs.S hS) (by omega) hl (by omega) (by omega) (by omega) hv (fun h => by omega) (fun _ h => x s b _ hs hM ⟨led, fun _ => h⟩) (fun _ h ho => ?_) (fun _ h ho => ih s false hs hM (keep h (fun g => ho g.1)))
    have hu := otN_lt hI hj v
    have hr := (hI.roa hj).2.2
    have iff_ : (t + sn S (177 + 3 * j + 2) ≤ l ∧ C (6 * (t + sn S (177 + 3 * j + 2)) + otN S j v) = true) ↔ Led S k (sn S 8 + l) w (sn S 8 + t + sn S (177 + 3 * j + 2)) (otN S j v) := by
      rw [show sn S 8 + t + sn S (177 + 3 * j + 2) = sn S 8 + (t + sn S (177 + 3 * j + 2)) from Nat.add_assoc _ _ _]
      constructor
      · intro h; exact (hP _ _ hu h.1 (Or.inl (by omega))).mp h.2
      · intro h
        have := h.le
        exact ⟨by omega, (hP _ _ hu (by omega) (Or.inl (by omega))).mpr h⟩
    refine b_280_55 hI (hs.S hS) hA hM (by omega) hl (by omega) (by omega) (by omega) hk hv hj ho (fun h2 => ih s false hs hM (keep h (fun g => h2 (iff_.mpr g.2.2)))) (fun h2 s4 g4 h3 => ?_) (fun h2 s4 g4 h3 => ?_)
    · obtain ⟨w1, w2⟩ := S0.up7 g4
      exact ih s4 false (hs.tr w1) (hM.eq w2) (keep h (fun g => by rw [h3] at g; cases g.2.1))
    · obtain ⟨w1, w2⟩ := S0.up7 g4
      exact ih s4 true (hs.tr w1) (hM.eq w2) ⟨fun _ => Or.inr ⟨j, by omega, ho, by simpa using h3, iff_.mp h2⟩, fun _ => rfl⟩
  · intro _ s b hs hM hb
    have fin : gW X (d + 8) k_280 84 [some (vR 800), some (vI (nI k)), z2, some (vI (nI l)), some (vI (nI t)), some (vI (nI v)), some (vI (if b = true then 1 else 0)), some (vI (nI (sn S 3)))] [] p s Q := by
      refine x s b _ hs hM ⟨fun h => (hb.mp h).elim (fun h => h.wait) (fun ⟨r, hr, ho, hb, h⟩ => h.go hb hr ho), fun h => hb.mpr ?_⟩
      rcases h.cases with ⟨e, _⟩ | h9 | ⟨r, hr, ho, hb, h9⟩
      · omega
      · exact Or.inl h9
      · exact Or.inr ⟨r, hr, ho, hb, h9⟩
    exact b_280_44 hI (hs.S hS) (by omega) hl (by omega) (by omega) (by omega) hv (fun _ => fin) (fun h => by omega) (fun h => by omega) (fun h => by omega)
theorem s_280 {X : Nat × (Nat → Int32)} {d : Nat} {p : Nat → Nat} {sg : Mg} {B : Nat} {S : Nat → Int32} (hI : Inv B S) (hS : sg 801 = S) (hA : InvA S) {k w l : Nat} (hk : k < sn S 1) (hw : w < sn S 0) (hl : l ≤ 200) : gF X (d + 9) 280 [vR 800, vI (nI k), vI (nI w), vI (nI l)] p sg (fun r => ∃ s, (S0 sg s ∧ ∃ C, cnM 810 1206 s C ∧ ∀ t v, t ≤ l → v < sn S 0 → (C (6 * t + v) = true ↔ Led S k (sn S 8 + l) w (sn S 8 + t) v)) ∧ r = gR0 p s) := by
  have b0 := hI.b0; have b1 := hI.b1; have b8 := hI.b8
  refine g_in (cd := k_280) (nL := 8) (rc := 13) rfl (g_A (a := 800) (kd := 0) (n := 12) rfl (by decide)) (g_c1 rfl) (b_280_0 hI hS (by omega) (by omega) hl ?_)
  have key := g_upI (P := fun j => ∀ s, S0 sg s → (∀ i, i < j → s 810 i = 0) → gW X (d + 8) k_280 2 [some (vR 800), some (vI (nI k)), some (vI (nI w)), some (vI (nI l)), some (vI (nI j)), none, none, none] [] p s (fun r => ∃ s, (S0 sg s ∧ ∃ C, cnM 810 1206 s C ∧ ∀ t v, t ≤ l → v < sn S 0 → (C (6 * t + v) = true ↔ Led S k (sn S 8 + l) w (sn S 8 + t) v)) ∧ r = gR0 p s)) (I := fun _ => True) (n := 1206) (a := 0) (by omega) trivial ?_ ?_
  · exact key sg (S0.rf _) (fun i hi => absurd hi (Nat.not_lt_zero _))
  · intro j _ hj _ ih s hs hz
    refine b_280_2 hI (hs.S hS) (by omega) (by omega) hl (by omega) (fun h => by omega) (fun _ s4 e4 => ?_)
    refine ih trivial s4 (hs.tr (fun c _ c2 => by rw [e4, mu_ne c2])) (fun i hi => ?_)
    by_cases e : i = j
    · subst e; rw [e4, mu_self]
    · rw [e4, mu_idx e]; exact hz i (by omega)
  · intro _ s hs hz
    have hC0 : cnM 810 1206 s (fun _ => false) := fun i hi => hz i hi
    refine b_280_2 hI (hs.S hS) (by omega) (by omega) hl (by omega) (fun _ s2 e2 => ?_) (fun h => by omega)
    have hs2 : S0 sg s2 := hs.tr (fun c _ c2 => by rw [e2, mu_ne c2])
    have hC2 : cnM 810 1206 s2 (upB (fun _ => false) (6 * l + w)) := by rw [e2]; exact hC0.up
    have key := g_upI (P := fun i => ∀ s C z5 z6 z7, S0 sg s → cnM 810 1206 s C → (∀ t' v', v' < sn S 0 → t' ≤ l → l - i ≤ t' → (C (6 * t' + v') = true ↔ Led S k (sn S 8 + l) w (sn S 8 + t') v')) → gW X (d + 8) k_280 25 [some (vR 800), some (vI (nI k)), some (vI (nI w)), some (vI (nI l)), some (vI (nI (l - i) - 1)), z5, z6, z7] [] p s (fun r => ∃ s, (S0 sg s ∧ ∃ C, cnM 810 1206 s C ∧ ∀ t v, t ≤ l → v < sn S 0 → (C (6 * t + v) = true ↔ Led S k (sn S 8 + l) w (sn S 8 + t) v)) ∧ r = gR0 p s)) (I := fun _ => True) (n := l) (a := 0) (by omega) trivial ?_ ?_
    · refine key s2 _ none none none hs2 hC2 (fun t' v' hv' ht' hl' => ?_)
      have e : t' = l := by omega
      subst e
      constructor
      · intro h
        by_cases e : v' = w
        · subst e; exact Led.base
        · rw [upB_ne (by omega)] at h; cases h
      · intro h
        rcases h.cases with ⟨_, rfl⟩ | h9 | ⟨r, hr, ho, hb, h9⟩
        · exact upB_self
        · have := h9.le; omega
        · have := h9.le; have := (hI.roa hr).2.2.2.1; omega
    · intro i _ hi _ ih s C z5 z6 z7 hs hM hP
      have ih := ih trivial
      rw [show nI (l - i) - 1 = nI (l - i - 1) from nI_sub (b := 1) (by omega)]
      refine b_280_25 hI (hs.S hS) (by omega) hl (by omega) ?_
      have P0 : ldI S k l w C (l - i - 1) 0 := fun t' v' hv' ht' hc => hP t' v' hv' ht' (by omega)
      have key2 := g_upI (P := fun v => ∀ s C z6 z7, S0 sg s → cnM 810 1206 s C → ldI S k l w C (l - i - 1) v → gW X (d + 8) k_280 29 [some (vR 800), some (vI (nI k)), some (vI (nI w)), some (vI (nI l)), some (vI (nI (l - i - 1))), some (vI (nI v)), z6, z7] [] p s (fun r => ∃ s, (S0 sg s ∧ ∃ C, cnM 810 1206 s C ∧ ∀ t v, t ≤ l → v < sn S 0 → (C (6 * t + v) = true ↔ Led S k (sn S 8 + l) w (sn S 8 + t) v)) ∧ r = gR0 p s)) (I := fun _ => True) (n := sn S 0) (a := 0) (by omega) trivial ?_ ?_
      · exact key2 s C z6 z7 hs hM P0
      · intro v _ hv _ ih2 s C z6 z7 hs hM hP
        refine b_280_29 hI (hs.S hS) (by omega) hl (by omega) (by omega) (fun h => hM _ (by omega)) (fun h => by omega) (fun _ => ?_)
        refine l_280_44 hI (hs.S hS) hA hk hl (by omega) hv hM hP (fun s' b z7 hs' hM' hb => ?_)
        refine b_280_84 hI ((hs.tr hs').S hS) (by omega) hl (by omega) (by omega) (fun s1 e1 => ?_)
        refine ih2 trivial s1 (stB C (6 * (l - i - 1) + v) b) _ _ ((hs.tr hs').tr (fun c _ c2 => by rw [e1, mu_ne c2])) ?_ (hP.step b0 hv hb)
        rw [e1]
        exact hM'.st
      · intro _ s C z6 z7 hs hM hP
        refine b_280_29 hI (hs.S hS) (by omega) hl (by omega) (by omega) (fun h => hM _ (by omega)) (fun _ => ?_) (fun h => by omega)
        rw [show nI (l - i - 1) + -1 = nI (l - (i + 1)) - 1 by rw [← Int32.sub_eq_add_neg, Nat.sub_sub]]
        exact ih s C _ _ _ hs hM (fun t' v' hv' ht' hl' => hP t' v' hv' ht' (by omega))
    · intro _ s C z5 z6 z7 hs hM hP
      rw [Nat.sub_self]
      exact b_280_25x hI (hs.S hS) (by omega) hl ⟨s, ⟨hs, C, hM, fun t v ht hv => hP t v hv ht (by omega)⟩, rfl⟩

/-- the first road, or none -/
noncomputable def firN (S : Nat → Int32) (k w : Nat) (z : Int32) : Int32 := if snT S k w z < 201 ∧ ¬ S (113 + 6 * k) = -1 ∧ ¬ sn S (113 + 6 * k) = w then firV S k (sn S 8 + snT S k w z) w (sn S (113 + 6 * k)) else -1
noncomputable def firstR (S : Nat → Int32) (x y z : Int32) : Nat × Int32 := if gokP S x y z then (0, firN S x.toNatClampNeg y.toNatClampNeg z) else (1, 0)
theorem c_first {X : Nat × (Nat → Int32)} {d : Nat} {p : Nat → Nat} {sg : Mg} {B : Nat} {A : AS} (hI : RI B A) (hR : RC A p sg) {x y z : Int32} : gF X (d + 9) 161 [vR 0, vI x, vI y, vI z] p sg (cR A A (fun _ => 2) (firstR A.S x y z) sg) := by
  have b0 := hI.1.b0; have b1 := hI.1.b1; have b8 := hI.1.b8
  refine g_in (cd := k_161) (nL := 4) (rc := 12) rfl (g_A (a := 0) (kd := 0) (n := 11) rfl (by decide)) (g_c1 rfl) ?_
  show gW X (d + 8) k_161 0 [some (vR 0), some (vI x), some (vI y), some (vI z)] [] p sg _
  refine g_pure 4 (i' := 4) (lv' := [some (vR 0), some (vI x), some (vI y), some (vI z)]) (st' := [vI z, vI y, vI x, vR 0]) rfl ?_
  by_cases h : gokP A.S x y z
  · refine g_cV0 rfl (args := [vR 0, vI x, vI y, vI z]) (rest := []) rfl rfl rfl (s_160o (d := d + 5) hI.1 hR.2.1.1 hR.2.1.2.1 h) ?_
    unfold firstR
    rw [if_pos h]
    obtain ⟨k, v, hk, hv, rfl, rfl, hz⟩ := h.of hI.1
    rw [nI_clamp (by omega), nI_clamp (by omega)]
    refine g_pure 9 (i' := 14) (lv' := [some (vR 0), some (vI (nI k)), some (vI (nI v)), some (vI z)]) (st' := [vI z, vI (nI v), vI (nI k), vR 8, vI (nI v), vI (nI k), vR 8]) rfl ?_
    refine g_cV1E rfl (args := [vR 8, vI (nI k), vI (nI v), vI z]) (rest := [vI (nI v), vI (nI k), vR 8]) rfl rfl rfl (s_81 (d := d) hI.1 hR.2.1.1 hR.2.1.2.1 (hR.W hI) hk hv hz) (fun s h9 => ?_)
    have fin : ∀ s2 u, WY s s2 → u = firN A.S k v z → gW X (d + 8) k_161 16 [some (vR 0), some (vI (nI k)), some (vI (nI v)), some (vI z)] [vI u] p s2 (cR A A (fun _ => 2) (0, firN A.S k v z) sg) := fun s2 u h2 hu => by
      have h3 := h9.1.tr h2
      exact g_iret rfl (cR_v (hR.wy hI h3) (fun c hc => h3 c (by omega) (by omega) (by omega) (by omega)) (by rw [hu]))
    have hL := h9.1.L hR.2.1.1
    have hD := h9.1.D hR.2.1.2.1
    unfold snV
    by_cases c : snT A.S k v z < 201
    · rw [if_pos c]
      rcases (hI.1.per hk).1 with hw | hw
      · have hne : ¬ A.S (113 + 6 * k) = -1 := by rw [hw.1.1]; exact nI_m1 (by have := hw.1.2; omega)
        by_cases e : sn A.S (113 + 6 * k) = v
        · refine g_cV1 (v := -1) rfl (args := [vR 8, vI (nI k), vI (nI v), vI (nI (sn A.S 8 + snT A.S k v z))]) (rest := []) rfl rfl rfl ?_ (fin s _ (WY.rf _) (by unfold firN; rw [if_neg (fun g => g.2.2 e)]))
          exact g_in (cd := k_90) (nL := 9) (rc := 10) rfl (g_A (a := 8) (kd := 0) (n := 9) rfl (by decide)) (g_c1 rfl) (b_90_v (d := d + 2) hI.1 hL hD (by omega) (by omega) (by omega) hk (by have := hw.1.2; omega) hw.1.1 (fun g => absurd e g) (fun _ => rfl))
        · refine g_cV1E rfl (args := [vR 8, vI (nI k), vI (nI v), vI (nI (sn A.S 8 + snT A.S k v z))]) (rest := []) rfl rfl rfl (s_90 (d := d + 2) hI.1 hL hD (h9.1.W (hR.W hI)) h9.2 hk hv (by omega) (by omega) hw.1.1 hw.1.2 e) (fun s2 h2 => fin s2 _ h2 ?_)
          unfold firN
          rw [if_pos ⟨c, hne, e⟩]
      · refine g_cV1 (v := -1) rfl (args := [vR 8, vI (nI k), vI (nI v), vI (nI (sn A.S 8 + snT A.S k v z))]) (rest := []) rfl rfl rfl ?_ (fin s _ (WY.rf _) (by unfold firN; rw [if_neg (fun g => g.2.1 hw.1)]))
        exact g_in (cd := k_90) (nL := 9) (rc := 10) rfl (g_A (a := 8) (kd := 0) (n := 9) rfl (by decide)) (g_c1 rfl) (b_90_x (d := d + 2) hI.1 hL hD (by omega) (by omega) (by omega) hk hw.1 rfl)
    · rw [if_neg c]
      refine g_cV1 (v := -1) rfl (args := [vR 8, vI (nI k), vI (nI v), vI (-1)]) (rest := []) rfl rfl rfl ?_ (fin s _ (WY.rf _) (by unfold firN; rw [if_neg (fun g => c g.1)]))
      exact g_in (cd := k_90) (nL := 9) (rc := 10) rfl (g_A (a := 8) (kd := 0) (n := 9) rfl (by decide)) (g_c1 rfl) (b_90_m (d := d + 2) hI.1 hL hD (by omega) (by omega) hk rfl)
  · refine g_cVx rfl (args := [vR 0, vI x, vI y, vI z]) (rest := []) rfl rfl rfl (s_160x (d := d + 5) hI.1 hR.2.1.1 hR.2.1.2.1 h) ?_
    refine cR_x hR (fun _ _ => rfl) (c := 0) ?_ rfl
    unfold firstR
    rw [if_neg h]

/-- what first may write in the reference -/
def SA (sg s : Mg) : Prop := ∀ c, c ≠ 807 → c ≠ 809 → c ≠ 810 → s c = sg c
theorem l_279_56 {X : Nat × (Nat → Int32)} {d : Nat} {p : Nat → Nat} {sg : Mg} {B : Nat} {S : Nat → Int32} (hI : Inv B S) (hS : sg 801 = S) (hA : InvA S) {Q : am_R → Prop} {k w l h : Nat} {C : Nat → Bool} (hk : k < sn S 1) (hl : l ≤ 200) (hh : h < sn S 0) (hne : ¬ h = w) (hC : cnM 810 1206 sg C) (hP : ∀ t v, t ≤ l → v < sn S 0 → (C (6 * t + v) = true ↔ Led S k (sn S 8 + l) w (sn S 8 + t) v)) {z2 z3 z7 : Option AV}
    (x : ∀ s, S0 sg s → Q (gRv p s (firV S k (sn S 8 + l) w h))) :
    gW X (d + 11) k_279 56 [some (vR 800), some (vI (nI k)), z2, z3, some (vI (nI l)), some (vI (nI h)), some (vI (nI l - 1)), z7] [] p sg Q := by
  have b0 := hI.b0; have b1 := hI.b1; have b3 := hI.b3; have b8 := hI.b8
  refine g_upI (P := fun i => ∀ s z7, S0 sg s → cnM 810 1206 s C → gW X (d + 11) k_279 56 [some (vR 800), some (vI (nI k)), z2, z3, some (vI (nI l)), some (vI (nI h)), some (vI (nI (l - i) - 1)), z7] [] p s Q) (I := fun i => ∀ U, l - i ≤ U → U < l → ∀ q, q < sn S 3 → okR S k (sn S 8 + l) w h (sn S 8 + U) q = false) (n := l) (a := 0) (by omega) (fun U h1 h2 => by omega) (fun i _ hi hq ih s z7 hs hM => ?_) (fun hq s z7 hs hM => ?_) sg z7 (S0.rf _) hC
  · rw [show nI (l - i) - 1 = nI (l - i - 1) from nI_sub (b := 1) (by omega)]
    refine b_279_56 hI (hs.S hS) (by omega) hl (by omega) (by omega) ?_
    refine g_upI (P := fun j => ∀ s, S0 sg s → cnM 810 1206 s C → gW X (d + 11) k_279 60 [some (vR 800), some (vI (nI k)), z2, z3, some (vI (nI l)), some (vI (nI h)), some (vI (nI (l - i - 1))), some (vI (nI j))] [] p s Q) (I := fun j => ∀ q, q < j → okR S k (sn S 8 + l) w h (sn S 8 + (l - i - 1)) q = false) (n := sn S 3) (a := 0) (by omega) none_below (fun j _ hj hr ih2 s hs hM => ?_) (fun hr s hs hM => ?_) s hs hM
    · have no : ¬ (otP S j h ∧ Led S k (sn S 8 + l) w (sn S 8 + (l - i - 1) + sn S (177 + 3 * j + 2)) (otN S j h) ∧ bd S k h (sn S 8 + (l - i - 1)) = false) → ∀ q, q < j + 1 → okR S k (sn S 8 + l) w h (sn S 8 + (l - i - 1)) q = false := fun c => not_below hr (okR_f c)
      refine b_279_60 hI (hs.S hS) (by omega) hl (by omega) (by omega) (by omega) hh (fun h => by omega) (fun _ ho => ?_) (fun _ ho => ih2 (no (fun g => ho g.1)) s hs hM)
      have hu := otN_lt hI hj h
      have hr5 := (hI.roa hj).2.2
      have iff_ : (l - i - 1 + sn S (177 + 3 * j + 2) ≤ l ∧ C (6 * (l - i - 1 + sn S (177 + 3 * j + 2)) + otN S j h) = true) ↔ Led S k (sn S 8 + l) w (sn S 8 + (l - i - 1) + sn S (177 + 3 * j + 2)) (otN S j h) := by
        rw [show sn S 8 + (l - i - 1) + sn S (177 + 3 * j + 2) = sn S 8 + (l - i - 1 + sn S (177 + 3 * j + 2)) from Nat.add_assoc _ _ _]
        constructor
        · intro g; exact (hP _ _ g.1 hu).mp g.2
        · intro g
          have := g.le
          exact ⟨by omega, (hP _ _ (by omega) hu).mpr g⟩
      refine b_279_69 hI (hs.S hS) hA hM (by omega) hl (by omega) (by omega) (by omega) hk hh hj ho (fun h2 => ih2 (no (fun g => h2 (iff_.mpr g.2.1))) s hs hM) (fun h2 s4 g4 h3 => ?_) (fun h2 s4 g4 h3 => ?_)
      · obtain ⟨w1, w2⟩ := S0.up7 g4
        exact ih2 (no (fun g => by rw [h3] at g; cases g.2.2)) s4 (hs.tr w1) (hM.eq w2)
      · obtain ⟨w1, w2⟩ := S0.up7 g4
        have := firV_at (S := S) (k := k) (g := sn S 8 + l) (w := w) (h := h) (T := sn S 8 + (l - i - 1)) (r := j) (by omega) (by omega) hj (okR_t.mpr ⟨ho, iff_.mp h2, by simpa using h3⟩) hr (fun U hU hU2 q hq' => ?_)
        · rw [← this]; exact x s4 (hs.tr w1)
        · have := hq (U - sn S 8) (by omega) (by omega) q hq'
          rw [show sn S 8 + (U - sn S 8) = U by omega] at this
          exact this
    · refine b_279_60 hI (hs.S hS) (by omega) hl (by omega) (by omega) (by omega) hh (fun _ => ?_) (fun h => by omega) (fun h => by omega)
      rw [show nI (l - i - 1) + -1 = nI (l - (i + 1)) - 1 by rw [← Int32.sub_eq_add_neg, Nat.sub_sub]]
      refine ih (fun U h1 h2 q hq' => ?_) s _ hs hM
      by_cases e : U = l - i - 1
      · subst e; exact hr q hq'
      · exact hq U (by omega) h2 q hq'
  · rw [Nat.sub_self]
    have := firV_no (S := S) (k := k) (g := sn S 8 + l) (w := w) (h := h) (fun U h1 h2 q hq' => ?_)
    · refine b_279_56x hI (hs.S hS) (by omega) hl (by omega) ?_
      rw [← this]; exact x s hs
    · have := hq (U - sn S 8) (by omega) (by omega) q hq'
      rw [show sn S 8 + (U - sn S 8) = U by omega] at this
      exact this
theorem m_first {X : Nat × (Nat → Int32)} {d : Nat} {p : Nat → Nat} {sg : Mg} {B : Nat} {A : AS} (hI : RI B A) (hR : RM A sg) {x y z : Int32} : gF X (d + 12) 279 [vR 800, vI x, vI y, vI z] p sg (mR A A (firstR A.S x y z) p sg) := by
  have b0 := hI.1.b0; have b1 := hI.1.b1; have b8 := hI.1.b8
  have bad : ∀ s1 s3, s1 = mu sg 800 0 0 → s3 = mu s1 800 0 (nI 1) → ¬ gokP A.S x y z → mR A A (firstR A.S x y z) p sg (gRv p s3 0) := fun s1 s3 f1 f3 h => by
    refine mR_x ((hR.th f1).th f3) (fun c hc => by rw [f3, f1, up_hi hc, up_hi hc]) (c := 0) (by rw [f3, mu_self]) ?_
    unfold firstR
    rw [if_neg h]
  have good : ∀ s1 k v, s1 = mu sg 800 0 0 → k < sn A.S 1 → v < sn A.S 0 → (z = -1 ∨ ∃ e, e < sn A.S 9 ∧ z = nI e) → x = nI k → y = nI v → gW X (d + 11) k_279 27 [some (vR 800), some (vI (nI k)), some (vI (nI v)), some (vI z), none, none, none, none] [] p s1 (mR A A (firstR A.S x y z) p sg) := fun s1 k v f1 hk hv hz ex ey => by
    have ok : gokP A.S x y z := by
      refine ⟨?_, ?_, ?_⟩
      · rw [ex]; exact (okx_nI (by omega)).mpr hk
      · rw [ey]; exact (okx_nI (by omega)).mpr hv
      · rcases hz with h | ⟨e, h, h2⟩
        · exact Or.inl h
        · right; rw [h2]; exact (okx_nI (by have := hI.1.b9; omega)).mpr h
    unfold firstR
    rw [if_pos ok]
    subst ex ey
    rw [nI_clamp (by omega), nI_clamp (by omega)]
    have hR1 := hR.th f1
    refine g_pure 4 (i' := 31) (lv' := [some (vR 800), some (vI (nI k)), some (vI (nI v)), some (vI z), none, none, none, none]) (st' := [vI z, vI (nI v), vI (nI k), vR 800]) rfl ?_
    refine g_cV1E rfl (args := [vR 800, vI (nI k), vI (nI v), vI z]) (rest := []) rfl rfl rfl (s_272 (d := d) hI.1 hR1.1 hI.2.2.1 hk hv hz) (fun s h9 => ?_)
    have fin : ∀ s2 u, S0 s s2 → u = firN A.S k v z → mR A A (0, firN A.S k v z) p sg (gRv p s2 u) := fun s2 u h2 hu => by
      have all : ∀ c, c ≠ 807 → c ≠ 809 → c ≠ 810 → s2 c = s1 c := fun c c1 c2 c3 => by rw [h2 c c1 c3, h9 c c1 c2]
      refine mR_v (hR1.sr (fun c c1 c2 c3 c4 c5 => all c c1 (by omega) (by omega))) (fun c hc => by rw [all c (by omega) (by omega) (by omega), f1, up_hi hc]) (by rw [all 800 (by decide) (by decide) (by decide), f1, mu_self]) (by rw [hu])
    have hS := h9.S hR1.1
    by_cases c : snT A.S k v z < 201
    · rw [if_pos c]
      refine g_pure 1 (i' := 33) (lv' := [some (vR 800), some (vI (nI k)), some (vI (nI v)), some (vI z), some (vI (nI (snT A.S k v z))), none, none, none]) (st' := []) rfl ?_
      rcases (hI.1.per hk).1 with hw | hw
      · have hne : ¬ A.S (113 + 6 * k) = -1 := by rw [hw.1.1]; exact nI_m1 (by have := hw.1.2; omega)
        refine b_279_v hI.1 hS (by omega) (by omega) (by omega) (by have := hw.1.2; omega) hw.1.1 (fun e => ?_) (fun e => fin s _ (S0.rf _) (by unfold firN; rw [if_neg (fun g => g.2.2 e)]))
        refine g_pure 4 (i' := 51) (lv' := [some (vR 800), some (vI (nI k)), some (vI (nI v)), some (vI z), some (vI (nI (snT A.S k v z))), some (vI (nI (sn A.S (113 + 6 * k)))), none, none]) (st' := [vI (nI (snT A.S k v z)), vI (nI v), vI (nI k), vR 800]) rfl ?_
        refine g_cV0E rfl (args := [vR 800, vI (nI k), vI (nI v), vI (nI (snT A.S k v z))]) (rest := []) rfl rfl rfl (s_280 (d := d + 2) hI.1 hS hI.2.2.1 hk hv (by omega)) (fun s2 h2 => ?_)
        obtain ⟨hs2, C, hC, hP⟩ := h2
        refine g_pure 4 (i' := 56) (lv' := [some (vR 800), some (vI (nI k)), some (vI (nI v)), some (vI z), some (vI (nI (snT A.S k v z))), some (vI (nI (sn A.S (113 + 6 * k)))), some (vI (nI (snT A.S k v z) - 1)), none]) (st' := []) rfl ?_
        refine l_279_56 hI.1 (hs2.S hS) hI.2.2.1 hk (by omega) hw.1.2 e hC hP (fun s3 h3 => fin s3 _ (hs2.tr h3) ?_)
        unfold firN
        rw [if_pos ⟨c, hne, e⟩]
      · exact b_279_x hI.1 hS (by omega) (by omega) (by omega) hw.1 (fin s _ (S0.rf _) (by unfold firN; rw [if_neg (fun g => g.2.1 hw.1)]))
    · rw [if_neg c]
      refine g_pure 1 (i' := 33) (lv' := [some (vR 800), some (vI (nI k)), some (vI (nI v)), some (vI z), some (vI (-1)), none, none, none]) (st' := []) rfl ?_
      exact b_279_m hI.1 hS (by omega) (by omega) (fin s _ (S0.rf _) (by unfold firN; rw [if_neg (fun g => c g.1)]))
  refine g_in (cd := k_279) (nL := 8) (rc := 13) rfl (g_A (a := 800) (kd := 0) (n := 12) rfl (by decide)) (g_c1 rfl) (b_279_0 hI.1 hR.1 (fun s1 f1 h s3 f3 => bad _ _ f1 f3 (fun g => h g.1)) (fun s1 f1 k ek hk h s3 f3 => bad _ _ f1 f3 (fun g => h g.2.1)) (fun s1 f1 k ek hk v ev hv h => good s1 k v f1 hk hv (Or.inl h) ek ev) (fun s1 f1 k ek hk v ev hv h e ee he => ?_) (fun s1 f1 k ek hk v ev hv h h2 s3 f3 => bad _ _ f1 f3 (fun g => g.2.2.elim h h2)))
  have := good s1 k v f1 hk hv (Or.inr ⟨e, he, ee⟩) ek ev
  rw [ee] at this ⊢
  exact this
