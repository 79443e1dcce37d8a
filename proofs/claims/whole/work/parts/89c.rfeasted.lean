/-! FEASTED, in the reference (made by wip/whole/gen89c.py) -/
theorem b_303_0 {X : Nat × (Nat → Int32)} {d : Nat} {p : Nat → Nat} {sg : Mg} {Q : am_R → Prop} {B : Nat} {S : Nat → Int32} (hI : Inv B S) (hS : sg 801 = S) {z1 : Option AV} {t : Nat} {v : Nat} {b : Nat} (u_t : t ≤ 65) (u_v : v ≤ 5) (u_b : b ≤ 60)
    (o1 : (t ≤ 0) → ∀ s3 : Mg, s3 = mu sg 816 (6 * t + v) (if (sg 816 (6 * t + v)) < (nI b) then (nI b) else (sg 816 (6 * t + v))) → Q (gR0 p s3))
    (o2 : (¬ (t ≤ 0)) → (¬ ((((S 10) >>> ((S (17 + 16 * v + ((sn S 8 + t) % (sn S 9)))) &&& 31)) &&& 1) = 1)) → ∀ s7 : Mg, s7 = mu sg 816 (6 * t + v) (if (sg 816 (6 * t + v)) < (nI b) then (nI b) else (sg 816 (6 * t + v))) → Q (gR0 p s7))
    (o3 : (¬ (t ≤ 0)) → (((((S 10) >>> ((S (17 + 16 * v + ((sn S 8 + t) % (sn S 9)))) &&& 31)) &&& 1) = 1)) → ∀ s9 : Mg, s9 = mu sg 816 (6 * t + v) (if (sg 816 (6 * t + v)) < (nI (b + 1)) then (nI (b + 1)) else (sg 816 (6 * t + v))) → Q (gR0 p s9)) :
    gW X (d + 3) k_303 0 [some (vR 800), z1, some (vI (nI t)), some (vI (nI v)), some (vI (nI b)), none] [] p sg Q := by
  have b0 := hI.b0; have b1 := hI.b1; have b2 := hI.b2; have b3 := hI.b3; have b4 := hI.b4; have b5 := hI.b5; have b6 := hI.b6; have b7 := hI.b7; have b8 := hI.b8; have b9 := hI.b9; have b14 := hI.b14
  refine g_pure 1 (i' := 1) (lv' := [some (vR 800), z1, some (vI (nI t)), some (vI (nI v)), some (vI (nI b)), none]) (st' := [vI (nI t)]) rfl ?_
  refine g_if1 (i' := 17) (P := t ≤ 0) rfl rfl (g_leN (show nI t = nI t from (rfl : nI t = nI t)) (show 0 = nI 0 from (show (0 : Int32) = nI 0 from rfl)) (by omega) (by omega)) (fun h1 => ?_) (fun h1 => ?_)
  · refine g_pure 6 (i' := 23) (lv' := [some (vR 800), z1, some (vI (nI t)), some (vI (nI v)), some (vI (nI b)), some (vI 0)]) (st' := [vI (nI v), vI (nI t), vR 816]) rfl ?_
    refine g_cS1 rfl (args := [vI (nI t), vI (nI v)]) (rest := [vR 816]) rfl rfl rfl (s_277 (d := d + 2) (by omega) (by omega)) ?_
    refine g_pure 4 (i' := 28) (lv' := [some (vR 800), z1, some (vI (nI t)), some (vI (nI v)), some (vI (nI b)), some (vI 0)]) (st' := [vI (nI v), vI (nI t), vR 816, vI (nI (6 * t + v)), vR 816]) rfl ?_
    refine g_cS1 rfl (args := [vI (nI t), vI (nI v)]) (rest := [vR 816, vI (nI (6 * t + v)), vR 816]) rfl rfl rfl (s_277 (d := d + 2) (by omega) (by omega)) ?_
    refine g_ald rfl (g_A (a := 816) (kd := 1) (n := 396) rfl (by decide)) (by decide) (show nI (6 * t + v) = nI (6 * t + v) from (rfl : nI (6 * t + v) = nI (6 * t + v))) (by omega) (show _ = sg 816 (6 * t + v) from rfl) ?_
    refine g_pure 2 (i' := 32) (lv' := [some (vR 800), z1, some (vI (nI t)), some (vI (nI v)), some (vI (nI b)), some (vI 0)]) (st' := [vI 0, vI (nI b), vI (sg 816 (6 * t + v)), vI (nI (6 * t + v)), vR 816]) rfl ?_
    refine g_if1 (i' := 35) (P := 0 = 0) rfl rfl (g_eqN (show 0 = nI 0 from (show (0 : Int32) = nI 0 from rfl)) (show 0 = nI 0 from (show (0 : Int32) = nI 0 from rfl)) (by omega) (by omega)) (fun _ => ?_) (fun h2 => absurd (by omega) h2)
    refine g_pure 2 (i' := 37) (lv' := [some (vR 800), z1, some (vI (nI t)), some (vI (nI v)), some (vI (nI b)), some (vI 0)]) (st' := [vI (nI b + 0), vI (sg 816 (6 * t + v)), vI (nI (6 * t + v)), vR 816]) rfl ?_
    refine gW_eq (lv' := [some (vR 800), z1, some (vI (nI t)), some (vI (nI v)), some (vI (nI b)), some (vI 0)]) (st' := [vI (nI b), vI (sg 816 (6 * t + v)), vI (nI (6 * t + v)), vR 816]) rfl (by rw [(show (nI b + 0) = nI b from ((g_add (rfl : nI b = nI b) (show (0 : Int32) = nI 0 from rfl))).trans (congrArg nI (by omega)))]) rfl ?_
    refine g_cS1 rfl (args := [vI (sg 816 (6 * t + v)), vI (nI b)]) (rest := [vI (nI (6 * t + v)), vR 816]) rfl rfl rfl (s_316 (d := d + 2) ) ?_
    refine g_ast rfl (g_A (a := 816) (kd := 1) (n := 396) rfl (by decide)) (by decide) (show nI (6 * t + v) = nI (6 * t + v) from (rfl : nI (6 * t + v) = nI (6 * t + v))) (by omega) ?_
    refine g_setv (fun s3 es3 => ?_)
    have hSs3 : s3 801 = S := by rw [es3, mu_ne (by decide), hS]
    refine g_vret rfl ?_
    exact o1 h1 s3 es3
  · refine g_pure 3 (i' := 5) (lv' := [some (vR 800), z1, some (vI (nI t)), some (vI (nI v)), some (vI (nI b)), none]) (st' := [vI 10, vR 801]) rfl ?_
    refine g_ald rfl (g_A (a := 801) (kd := 1) (n := 2407) rfl (by decide)) (by decide) (show 10 = nI 10 from (show (10 : Int32) = nI 10 from rfl)) (by decide) (show _ = S 10 from (congrFun hS 10)) ?_
    refine g_pure 3 (i' := 9) (lv' := [some (vR 800), z1, some (vI (nI t)), some (vI (nI v)), some (vI (nI b)), none]) (st' := [vR 800, vI (nI v), vR 800, vI (S 10)]) rfl ?_
    refine g_cV1 rfl (args := [vR 800]) (rest := [vI (nI v), vR 800, vI (S 10)]) rfl rfl rfl (s_248 (d := d + 2) hS) ?_
    refine g_pure 2 (i' := 12) (lv' := [some (vR 800), z1, some (vI (nI t)), some (vI (nI v)), some (vI (nI b)), none]) (st' := [vI (S 8 + nI t), vI (nI v), vR 800, vI (S 10)]) rfl ?_
    refine gW_eq (lv' := [some (vR 800), z1, some (vI (nI t)), some (vI (nI v)), some (vI (nI b)), none]) (st' := [vI (nI (sn S 8 + t)), vI (nI v), vR 800, vI (S 10)]) rfl (by rw [(show (S 8 + nI t) = nI (sn S 8 + t) from ((g_add (hI.c8) (rfl : nI t = nI t))).trans (congrArg nI (by omega)))]) rfl ?_
    refine g_cV1 rfl (args := [vR 800, vI (nI v), vI (nI (sn S 8 + t))]) (rest := [vI (S 10)]) rfl rfl rfl (s_232 (d := d + 1) hI hS (by omega) (by omega)) ?_
    have t4 := Nat.mod_lt ((sn S 8 + t)) (y := sn S 9) (by omega)
    refine g_cS1 rfl (args := [vI (S 10), vI (S (17 + 16 * v + ((sn S 8 + t) % (sn S 9))))]) (rest := []) rfl rfl rfl (s_201 (d := d + 2) ) ?_
    refine g_if1 (i' := 17) (P := ¬ ((((S 10) >>> ((S (17 + 16 * v + ((sn S 8 + t) % (sn S 9)))) &&& 31)) &&& 1) = 1)) rfl rfl g_eqB (fun h5 => ?_) (fun h5 => ?_)
    · refine g_pure 6 (i' := 23) (lv' := [some (vR 800), z1, some (vI (nI t)), some (vI (nI v)), some (vI (nI b)), some (vI 0)]) (st' := [vI (nI v), vI (nI t), vR 816]) rfl ?_
      refine g_cS1 rfl (args := [vI (nI t), vI (nI v)]) (rest := [vR 816]) rfl rfl rfl (s_277 (d := d + 2) (by omega) (by omega)) ?_
      refine g_pure 4 (i' := 28) (lv' := [some (vR 800), z1, some (vI (nI t)), some (vI (nI v)), some (vI (nI b)), some (vI 0)]) (st' := [vI (nI v), vI (nI t), vR 816, vI (nI (6 * t + v)), vR 816]) rfl ?_
      refine g_cS1 rfl (args := [vI (nI t), vI (nI v)]) (rest := [vR 816, vI (nI (6 * t + v)), vR 816]) rfl rfl rfl (s_277 (d := d + 2) (by omega) (by omega)) ?_
      refine g_ald rfl (g_A (a := 816) (kd := 1) (n := 396) rfl (by decide)) (by decide) (show nI (6 * t + v) = nI (6 * t + v) from (rfl : nI (6 * t + v) = nI (6 * t + v))) (by omega) (show _ = sg 816 (6 * t + v) from rfl) ?_
      refine g_pure 2 (i' := 32) (lv' := [some (vR 800), z1, some (vI (nI t)), some (vI (nI v)), some (vI (nI b)), some (vI 0)]) (st' := [vI 0, vI (nI b), vI (sg 816 (6 * t + v)), vI (nI (6 * t + v)), vR 816]) rfl ?_
      refine g_if1 (i' := 35) (P := 0 = 0) rfl rfl (g_eqN (show 0 = nI 0 from (show (0 : Int32) = nI 0 from rfl)) (show 0 = nI 0 from (show (0 : Int32) = nI 0 from rfl)) (by omega) (by omega)) (fun _ => ?_) (fun h6 => absurd (by omega) h6)
      refine g_pure 2 (i' := 37) (lv' := [some (vR 800), z1, some (vI (nI t)), some (vI (nI v)), some (vI (nI b)), some (vI 0)]) (st' := [vI (nI b + 0), vI (sg 816 (6 * t + v)), vI (nI (6 * t + v)), vR 816]) rfl ?_
      refine gW_eq (lv' := [some (vR 800), z1, some (vI (nI t)), some (vI (nI v)), some (vI (nI b)), some (vI 0)]) (st' := [vI (nI b), vI (sg 816 (6 * t + v)), vI (nI (6 * t + v)), vR 816]) rfl (by rw [(show (nI b + 0) = nI b from ((g_add (rfl : nI b = nI b) (show (0 : Int32) = nI 0 from rfl))).trans (congrArg nI (by omega)))]) rfl ?_
      refine g_cS1 rfl (args := [vI (sg 816 (6 * t + v)), vI (nI b)]) (rest := [vI (nI (6 * t + v)), vR 816]) rfl rfl rfl (s_316 (d := d + 2) ) ?_
      refine g_ast rfl (g_A (a := 816) (kd := 1) (n := 396) rfl (by decide)) (by decide) (show nI (6 * t + v) = nI (6 * t + v) from (rfl : nI (6 * t + v) = nI (6 * t + v))) (by omega) ?_
      refine g_setv (fun s7 es7 => ?_)
      have hSs7 : s7 801 = S := by rw [es7, mu_ne (by decide), hS]
      refine g_vret rfl ?_
      exact o2 h1 h5 s7 es7
    · have h5 := Classical.not_not.mp h5
      refine g_pure 7 (i' := 23) (lv' := [some (vR 800), z1, some (vI (nI t)), some (vI (nI v)), some (vI (nI b)), some (vI 1)]) (st' := [vI (nI v), vI (nI t), vR 816]) rfl ?_
      refine g_cS1 rfl (args := [vI (nI t), vI (nI v)]) (rest := [vR 816]) rfl rfl rfl (s_277 (d := d + 2) (by omega) (by omega)) ?_
      refine g_pure 4 (i' := 28) (lv' := [some (vR 800), z1, some (vI (nI t)), some (vI (nI v)), some (vI (nI b)), some (vI 1)]) (st' := [vI (nI v), vI (nI t), vR 816, vI (nI (6 * t + v)), vR 816]) rfl ?_
      refine g_cS1 rfl (args := [vI (nI t), vI (nI v)]) (rest := [vR 816, vI (nI (6 * t + v)), vR 816]) rfl rfl rfl (s_277 (d := d + 2) (by omega) (by omega)) ?_
      refine g_ald rfl (g_A (a := 816) (kd := 1) (n := 396) rfl (by decide)) (by decide) (show nI (6 * t + v) = nI (6 * t + v) from (rfl : nI (6 * t + v) = nI (6 * t + v))) (by omega) (show _ = sg 816 (6 * t + v) from rfl) ?_
      refine g_pure 2 (i' := 32) (lv' := [some (vR 800), z1, some (vI (nI t)), some (vI (nI v)), some (vI (nI b)), some (vI 1)]) (st' := [vI 1, vI (nI b), vI (sg 816 (6 * t + v)), vI (nI (6 * t + v)), vR 816]) rfl ?_
      refine g_if1 (i' := 35) (P := 1 = 0) rfl rfl (g_eqN (show 1 = nI 1 from (show (1 : Int32) = nI 1 from rfl)) (show 0 = nI 0 from (show (0 : Int32) = nI 0 from rfl)) (by omega) (by omega)) (fun h8 => absurd h8 (by omega)) (fun _ => ?_)
      refine g_pure 3 (i' := 37) (lv' := [some (vR 800), z1, some (vI (nI t)), some (vI (nI v)), some (vI (nI b)), some (vI 1)]) (st' := [vI (nI b + 1), vI (sg 816 (6 * t + v)), vI (nI (6 * t + v)), vR 816]) rfl ?_
      refine gW_eq (lv' := [some (vR 800), z1, some (vI (nI t)), some (vI (nI v)), some (vI (nI b)), some (vI 1)]) (st' := [vI (nI (b + 1)), vI (sg 816 (6 * t + v)), vI (nI (6 * t + v)), vR 816]) rfl (by rw [(show (nI b + 1) = nI (b + 1) from ((g_add (rfl : nI b = nI b) (show (1 : Int32) = nI 1 from rfl))).trans (congrArg nI (by omega)))]) rfl ?_
      refine g_cS1 rfl (args := [vI (sg 816 (6 * t + v)), vI (nI (b + 1))]) (rest := [vI (nI (6 * t + v)), vR 816]) rfl rfl rfl (s_316 (d := d + 2) ) ?_
      refine g_ast rfl (g_A (a := 816) (kd := 1) (n := 396) rfl (by decide)) (by decide) (show nI (6 * t + v) = nI (6 * t + v) from (rfl : nI (6 * t + v) = nI (6 * t + v))) (by omega) ?_
      refine g_setv (fun s9 es9 => ?_)
      have hSs9 : s9 801 = S := by rw [es9, mu_ne (by decide), hS]
      refine g_vret rfl ?_
      exact o3 h1 h5 s9 es9

theorem b_302_0 {X : Nat × (Nat → Int32)} {d : Nat} {p : Nat → Nat} {sg : Mg} {Q : am_R → Prop} {B : Nat} {S : Nat → Int32} (hI : Inv B S) (hS : sg 801 = S) {x : Int32} {y : Int32}
    (o1 : ∀ s1 : Mg, s1 = mu sg 800 0 0 → (¬ okx x (sn S 1)) → ∀ s3 : Mg, s3 = mu s1 800 0 (nI 1) → Q (gRv p s3 0))
    (o2 : ∀ s1 : Mg, s1 = mu sg 800 0 0 → ∀ n5 : Nat, x = nI n5 → n5 < sn S 1 → ∀ n8 : Nat, y = nI n8 → 1 ≤ n8 ∧ n8 ≤ 60 → gW X (d + 8) k_302 24 [some (vR 800), some (vI (nI n5)), some (vI (nI n8)), none, none, none, none, none] [] p s1 Q)
    (o3 : ∀ s1 : Mg, s1 = mu sg 800 0 0 → ∀ n5 : Nat, x = nI n5 → n5 < sn S 1 → (¬ (¬ (y < 1) ∧ ¬ (60 < y))) → ∀ s10 : Mg, s10 = mu s1 800 0 (nI 2) → Q (gRv p s10 0)) :
    gW X (d + 8) k_302 0 [some (vR 800), some (vI x), some (vI y), none, none, none, none, none] [] p sg Q := by
  have b0 := hI.b0; have b1 := hI.b1; have b2 := hI.b2; have b3 := hI.b3; have b4 := hI.b4; have b5 := hI.b5; have b6 := hI.b6; have b7 := hI.b7; have b8 := hI.b8; have b9 := hI.b9; have b14 := hI.b14
  refine g_pure 2 (i' := 2) (lv' := [some (vR 800), some (vI x), some (vI y), none, none, none, none, none]) (st' := [vI 0, vR 800]) rfl ?_
  refine g_putI rfl (g_A (a := 800) (kd := 0) (n := 12) rfl (by decide)) ?_
  refine g_setv (fun s1 es1 => ?_)
  have hSs1 : s1 801 = S := by rw [es1, mu_ne (by decide), hS]
  refine g_pure 3 (i' := 6) (lv' := [some (vR 800), some (vI x), some (vI y), none, none, none, none, none]) (st' := [vI x, vR 800, vR 800]) rfl ?_
  refine g_cV1 rfl (args := [vR 800, vI x]) (rest := [vR 800]) rfl rfl rfl (s_237 (d := d + 6) hI hSs1) ?_
  refine g_pure 1 (i' := 8) (lv' := [some (vR 800), some (vI x), some (vI y), none, none, none, none, none]) (st' := [vI 1, vI (if ¬ okx x (sn S 1) then 1 else 0), vR 800]) rfl ?_
  by_cases h2 : ¬ okx x (sn S 1)
  · refine gW_eq (st' := [vI 1, vI 1, vR 800]) rfl (by rw [if_pos h2]) rfl ?_
    refine gW_eq (st' := [vI (nI 1), vI 1, vR 800]) rfl (by rw [(show (1 : Int32) = nI 1 from rfl)]) rfl ?_
    refine g_cV1 rfl (args := [vR 800, vI 1, vI (nI 1)]) (rest := []) rfl rfl rfl (s_227t (d := d + 7) (by omega)) ?_
    refine g_setv (fun s3 es3 => ?_)
    have hSs3 : s3 801 = S := by rw [es3, mu_ne (by decide), hSs1]
    refine g_if1 (i' := 22) (P := ¬ 1 = 0) rfl rfl (g_neN (show 1 = nI 1 from (show (1 : Int32) = nI 1 from rfl)) (show 0 = nI 0 from (show (0 : Int32) = nI 0 from rfl)) (by omega) (by omega)) (fun _ => ?_) (fun h4 => absurd (by omega) h4)
    refine g_pure 1 (i' := 23) (lv' := [some (vR 800), some (vI x), some (vI y), none, none, none, none, none]) (st' := [vI 0]) rfl ?_
    refine g_iret rfl ?_
    exact o1 s1 es1 h2 s3 es3
  · have h2 := Classical.not_not.mp h2
    refine gW_eq (st' := [vI 1, vI 0, vR 800]) rfl (by rw [if_neg (fun n9 => n9 h2)]) rfl ?_
    obtain ⟨n5, ln5, en5⟩ := okx_of h2
    subst en5
    refine gW_eq (st' := [vI (nI 1), vI 0, vR 800]) rfl (by rw [(show (1 : Int32) = nI 1 from rfl)]) rfl ?_
    refine g_cV1 rfl (args := [vR 800, vI 0, vI (nI 1)]) (rest := []) rfl rfl rfl (s_227f (d := d + 7) (by omega)) ?_
    refine g_if1 (i' := 22) (P := ¬ 0 = 0) rfl rfl (g_neN (show 0 = nI 0 from (show (0 : Int32) = nI 0 from rfl)) (show 0 = nI 0 from (show (0 : Int32) = nI 0 from rfl)) (by omega) (by omega)) (fun h6 => absurd h6 (by omega)) (fun _ => ?_)
    refine g_pure 4 (i' := 14) (lv' := [some (vR 800), some (vI (nI n5)), some (vI y), none, none, none, none, none]) (st' := [vI 60, vI 1, vI y, vR 800]) rfl ?_
    refine g_cS1 rfl (args := [vI y, vI 1, vI 60]) (rest := [vR 800]) rfl rfl rfl (s_231 (d := d + 7) ) ?_
    refine g_if1 (i' := 18) (P := (¬ (y < 1) ∧ ¬ (60 < y))) rfl rfl g_neB (fun h7 => ?_) (fun h7 => ?_)
    · obtain ⟨n8, ln8, en8⟩ := okr_of (lo := 1) (hi := 60) (by decide) h7
      subst en8
      refine g_pure 2 (i' := 20) (lv' := [some (vR 800), some (vI (nI n5)), some (vI (nI n8)), none, none, none, none, none]) (st' := [vI 2, vI 0, vR 800]) rfl ?_
      refine gW_eq (st' := [vI (nI 2), vI 0, vR 800]) rfl (by rw [(show (2 : Int32) = nI 2 from rfl)]) rfl ?_
      refine g_cV1 rfl (args := [vR 800, vI 0, vI (nI 2)]) (rest := []) rfl rfl rfl (s_227f (d := d + 7) (by omega)) ?_
      refine g_if1 (i' := 24) (P := 0 = 0) rfl rfl (g_eqN (show 0 = nI 0 from (show (0 : Int32) = nI 0 from rfl)) (show 0 = nI 0 from (show (0 : Int32) = nI 0 from rfl)) (by omega) (by omega)) (fun _ => ?_) (fun h9 => absurd (by omega) h9)
      exact o2 s1 es1 n5 rfl ln5 n8 rfl ln8
    · refine g_pure 3 (i' := 20) (lv' := [some (vR 800), some (vI (nI n5)), some (vI y), none, none, none, none, none]) (st' := [vI 2, vI 1, vR 800]) rfl ?_
      refine gW_eq (st' := [vI (nI 2), vI 1, vR 800]) rfl (by rw [(show (2 : Int32) = nI 2 from rfl)]) rfl ?_
      refine g_cV1 rfl (args := [vR 800, vI 1, vI (nI 2)]) (rest := []) rfl rfl rfl (s_227t (d := d + 7) (by omega)) ?_
      refine g_setv (fun s10 es10 => ?_)
      have hSs10 : s10 801 = S := by rw [es10, mu_ne (by decide), hSs1]
      refine g_if1 (i' := 24) (P := 1 = 0) rfl rfl (g_eqN (show 1 = nI 1 from (show (1 : Int32) = nI 1 from rfl)) (show 0 = nI 0 from (show (0 : Int32) = nI 0 from rfl)) (by omega) (by omega)) (fun h11 => absurd h11 (by omega)) (fun _ => ?_)
      refine g_pure 1 (i' := 23) (lv' := [some (vR 800), some (vI (nI n5)), some (vI y), none, none, none, none, none]) (st' := [vI 0]) rfl ?_
      refine g_iret rfl ?_
      exact o3 s1 es1 n5 rfl ln5 h7 s10 es10

theorem b_302_26 {X : Nat × (Nat → Int32)} {d : Nat} {p : Nat → Nat} {sg : Mg} {Q : am_R → Prop} {B : Nat} {S : Nat → Int32} (hI : Inv B S) (hS : sg 801 = S) {k : Nat} {n : Nat} {j : Nat} {z4 : Option AV} {z5 : Option AV} {z6 : Option AV} {z7 : Option AV} (u_k : k ≤ 7) (u_n : n ≤ 60) (u_j : j ≤ 396)
    (o1 : (396 ≤ j) → gW X (d + 8) k_302 38 [some (vR 800), some (vI (nI k)), some (vI (nI n)), some (vI (nI j)), z4, z5, z6, z7] [] p sg Q)
    (o2 : (¬ (396 ≤ j)) → ∀ s2 : Mg, s2 = mu sg 816 j (-1) → gW X (d + 8) k_302 26 [some (vR 800), some (vI (nI k)), some (vI (nI n)), some (vI (nI (j + 1))), z4, z5, z6, z7] [] p s2 Q) :
    gW X (d + 8) k_302 26 [some (vR 800), some (vI (nI k)), some (vI (nI n)), some (vI (nI j)), z4, z5, z6, z7] [] p sg Q := by
  have b0 := hI.b0; have b1 := hI.b1; have b2 := hI.b2; have b3 := hI.b3; have b4 := hI.b4; have b5 := hI.b5; have b6 := hI.b6; have b7 := hI.b7; have b8 := hI.b8; have b9 := hI.b9; have b14 := hI.b14
  refine g_pure 3 (i' := 29) (lv' := [some (vR 800), some (vI (nI k)), some (vI (nI n)), some (vI (nI j)), z4, z5, z6, z7]) (st' := [vR 816, vI (nI j)]) rfl ?_
  refine g_len rfl (by decide) (by decide) (g_A (a := 816) (kd := 1) (n := 396) rfl (by decide)) ?_
  refine gW_eq (lv' := [some (vR 800), some (vI (nI k)), some (vI (nI n)), some (vI (nI j)), z4, z5, z6, z7]) (st' := [vI 396, vI (nI j)]) rfl (by rw [(show (nI 396 : Int32) = 396 from rfl)]) rfl ?_
  refine g_if2 (i' := 38) (P := 396 ≤ j) rfl rfl (g_geN (show nI j = nI j from (rfl : nI j = nI j)) (show 396 = nI 396 from (show (396 : Int32) = nI 396 from rfl)) (by omega) (by omega)) (fun h1 => ?_) (fun h1 => ?_)
  · exact o1 h1
  · refine g_pure 4 (i' := 35) (lv' := [some (vR 800), some (vI (nI k)), some (vI (nI n)), some (vI (nI j)), z4, z5, z6, z7]) (st' := [vI (-1), vI (nI j), vR 816]) rfl ?_
    refine g_ast rfl (g_A (a := 816) (kd := 1) (n := 396) rfl (by decide)) (by decide) (show nI j = nI j from (rfl : nI j = nI j)) (by omega) ?_
    refine g_setv (fun s2 es2 => ?_)
    have hSs2 : s2 801 = S := by rw [es2, mu_ne (by decide), hS]
    refine g_pure 2 (i' := 26) (lv' := [some (vR 800), some (vI (nI k)), some (vI (nI n)), some (vI (nI j + 1)), z4, z5, z6, z7]) (st' := []) rfl ?_
    refine gW_eq (lv' := [some (vR 800), some (vI (nI k)), some (vI (nI n)), some (vI (nI (j + 1))), z4, z5, z6, z7]) (st' := []) (by rw [(show (nI j + 1) = nI (j + 1) from ((g_add (rfl : nI j = nI j) (show (1 : Int32) = nI 1 from rfl))).trans (congrArg nI (by omega)))]) rfl rfl ?_
    exact o2 h1 s2 es2

theorem b_302_38 {X : Nat × (Nat → Int32)} {d : Nat} {p : Nat → Nat} {sg : Mg} {Q : am_R → Prop} {B : Nat} {S : Nat → Int32} (hI : Inv B S) (hS : sg 801 = S) {k : Nat} {n : Nat} {z3 : Option AV} {z4 : Option AV} {z5 : Option AV} {z6 : Option AV} {z7 : Option AV} (u_k : k ≤ 7) (u_n : n ≤ 60) (q1 : k < sn S 1)
    (o1 : (n < stN S k - sn S 8) → gW X (d + 8) k_302 53 [some (vR 800), some (vI (nI k)), some (vI (nI n)), z3, z4, z5, z6, z7] [] p sg Q)
    (o2 : (¬ (n < stN S k - sn S 8)) → gW X (d + 8) k_302 52 [some (vR 800), some (vI (nI k)), some (vI (nI n)), z3, z4, z5, z6, z7] [vI 0, vI (nI (hmN S k)), vI (nI (stN S k - sn S 8)), vI (nI k), vR 800] p sg Q) :
    gW X (d + 8) k_302 38 [some (vR 800), some (vI (nI k)), some (vI (nI n)), z3, z4, z5, z6, z7] [] p sg Q := by
  have b0 := hI.b0; have b1 := hI.b1; have b2 := hI.b2; have b3 := hI.b3; have b4 := hI.b4; have b5 := hI.b5; have b6 := hI.b6; have b7 := hI.b7; have b8 := hI.b8; have b9 := hI.b9; have b14 := hI.b14
  refine g_pure 2 (i' := 40) (lv' := [some (vR 800), some (vI (nI k)), some (vI (nI n)), z3, z4, z5, z6, z7]) (st' := [vI (nI k), vR 800]) rfl ?_
  refine g_cV1 rfl (args := [vR 800, vI (nI k)]) (rest := []) rfl rfl rfl (s_275 (d := d + 6) hI hS (by omega)) ?_
  have t1 := (hm_ok hI (k := k) (by omega)).2.1
  have t2 := (hm_ok hI (k := k) (by omega)).2.2.1
  refine g_pure 1 (i' := 42) (lv' := [some (vR 800), some (vI (nI k)), some (vI (nI n)), z3, z4, z5, z6, z7]) (st' := [vI (nI n), vI (nI (stN S k - sn S 8))]) rfl ?_
  refine g_if2 (i' := 53) (P := n < stN S k - sn S 8) rfl rfl (g_gtN (show nI (stN S k - sn S 8) = nI (stN S k - sn S 8) from (rfl : nI (stN S k - sn S 8) = nI (stN S k - sn S 8))) (show nI n = nI n from (rfl : nI n = nI n)) (by omega) (by omega)) (fun h3 => ?_) (fun h3 => ?_)
  · exact o1 h3
  · refine g_pure 4 (i' := 47) (lv' := [some (vR 800), some (vI (nI k)), some (vI (nI n)), z3, z4, z5, z6, z7]) (st' := [vI (nI k), vR 800, vI (nI k), vR 800]) rfl ?_
    refine g_cV1 rfl (args := [vR 800, vI (nI k)]) (rest := [vI (nI k), vR 800]) rfl rfl rfl (s_275 (d := d + 6) hI hS (by omega)) ?_
    have t4 := (hm_ok hI (k := k) (by omega)).2.1
    have t5 := (hm_ok hI (k := k) (by omega)).2.2.1
    refine g_pure 2 (i' := 50) (lv' := [some (vR 800), some (vI (nI k)), some (vI (nI n)), z3, z4, z5, z6, z7]) (st' := [vI (nI k), vR 800, vI (nI (stN S k - sn S 8)), vI (nI k), vR 800]) rfl ?_
    refine g_cV1 rfl (args := [vR 800, vI (nI k)]) (rest := [vI (nI (stN S k - sn S 8)), vI (nI k), vR 800]) rfl rfl rfl (s_274 (d := d + 6) hI hS (by omega)) ?_
    have t6 := (hm_ok hI (k := k) (by omega)).1
    refine g_pure 1 (i' := 52) (lv' := [some (vR 800), some (vI (nI k)), some (vI (nI n)), z3, z4, z5, z6, z7]) (st' := [vI 0, vI (nI (hmN S k)), vI (nI (stN S k - sn S 8)), vI (nI k), vR 800]) rfl ?_
    exact o2 h3

theorem b_302_57 {X : Nat × (Nat → Int32)} {d : Nat} {p : Nat → Nat} {sg : Mg} {Q : am_R → Prop} {B : Nat} {S : Nat → Int32} (hI : Inv B S) (hS : sg 801 = S) {k : Nat} {n : Nat} {b : Nat} {t : Nat} {z5 : Option AV} {z6 : Option AV} {z7 : Option AV} (u_k : k ≤ 7) (u_n : n ≤ 60) (u_b : b ≤ 60) (u_t : t ≤ 61)
    (o1 : (n < t) → Q (gRv p sg (nI b)))
    (o2 : (¬ (n < t)) → gW X (d + 8) k_302 62 [some (vR 800), some (vI (nI k)), some (vI (nI n)), some (vI (nI b)), some (vI (nI t)), some (vI 0), z6, z7] [] p sg Q) :
    gW X (d + 8) k_302 57 [some (vR 800), some (vI (nI k)), some (vI (nI n)), some (vI (nI b)), some (vI (nI t)), z5, z6, z7] [] p sg Q := by
  have b0 := hI.b0; have b1 := hI.b1; have b2 := hI.b2; have b3 := hI.b3; have b4 := hI.b4; have b5 := hI.b5; have b6 := hI.b6; have b7 := hI.b7; have b8 := hI.b8; have b9 := hI.b9; have b14 := hI.b14
  refine g_pure 2 (i' := 59) (lv' := [some (vR 800), some (vI (nI k)), some (vI (nI n)), some (vI (nI b)), some (vI (nI t)), z5, z6, z7]) (st' := [vI (nI n), vI (nI t)]) rfl ?_
  refine g_if2 (i' := 129) (P := n < t) rfl rfl (g_gtN (show nI t = nI t from (rfl : nI t = nI t)) (show nI n = nI n from (rfl : nI n = nI n)) (by omega) (by omega)) (fun h1 => ?_) (fun h1 => ?_)
  · refine g_pure 1 (i' := 130) (lv' := [some (vR 800), some (vI (nI k)), some (vI (nI n)), some (vI (nI b)), some (vI (nI t)), z5, z6, z7]) (st' := [vI (nI b)]) rfl ?_
    refine g_iret rfl ?_
    exact o1 h1
  · refine g_pure 2 (i' := 62) (lv' := [some (vR 800), some (vI (nI k)), some (vI (nI n)), some (vI (nI b)), some (vI (nI t)), some (vI 0), z6, z7]) (st' := []) rfl ?_
    exact o2 h1

theorem b_302_62 {X : Nat × (Nat → Int32)} {d : Nat} {p : Nat → Nat} {sg : Mg} {Q : am_R → Prop} {B : Nat} {S : Nat → Int32} (hI : Inv B S) (hS : sg 801 = S) {m : Nat} {k : Nat} {n : Nat} {b : Nat} {t : Nat} {j : Nat} {z6 : Option AV} {z7 : Option AV} (u_k : k ≤ 7) (u_n : n ≤ 60) (u_b : b ≤ 60) (u_t : t ≤ 60) (u_j : j ≤ 5) (q1 : m ≤ 60) (q2 : j < sn S 0) (hx : sg 816 (6 * t + j) = nI m)
    (o1 : gW X (d + 8) k_302 87 [some (vR 800), some (vI (nI k)), some (vI (nI n)), some (vI (nI (max b m))), some (vI (nI t)), some (vI (nI j)), some (vI (nI m)), z7] [vI (nI m), vI (nI j), vI (nI (t + 1)), vI (nI k), vR 800] p sg Q) :
    gW X (d + 8) k_302 62 [some (vR 800), some (vI (nI k)), some (vI (nI n)), some (vI (nI b)), some (vI (nI t)), some (vI (nI j)), z6, z7] [] p sg Q := by
  have b0 := hI.b0; have b1 := hI.b1; have b2 := hI.b2; have b3 := hI.b3; have b4 := hI.b4; have b5 := hI.b5; have b6 := hI.b6; have b7 := hI.b7; have b8 := hI.b8; have b9 := hI.b9; have b14 := hI.b14
  refine g_pure 2 (i' := 64) (lv' := [some (vR 800), some (vI (nI k)), some (vI (nI n)), some (vI (nI b)), some (vI (nI t)), some (vI (nI j)), z6, z7]) (st' := [vR 800, vI (nI j)]) rfl ?_
  refine g_cV1 rfl (args := [vR 800]) (rest := [vI (nI j)]) rfl rfl rfl (s_195 (d := d + 7) hS) ?_
  refine g_if2 (i' := 127) (P := sn S 0 ≤ j) rfl rfl (g_geN (show nI j = nI j from (rfl : nI j = nI j)) (show S 0 = nI (sn S 0) from (hI.c0)) (by omega) (by omega)) (fun h1 => absurd h1 (by omega)) (fun _ => ?_)
  refine g_pure 4 (i' := 70) (lv' := [some (vR 800), some (vI (nI k)), some (vI (nI n)), some (vI (nI b)), some (vI (nI t)), some (vI (nI j)), z6, z7]) (st' := [vI (nI j), vI (nI t), vR 816]) rfl ?_
  refine g_cS1 rfl (args := [vI (nI t), vI (nI j)]) (rest := [vR 816]) rfl rfl rfl (s_277 (d := d + 7) (by omega) (by omega)) ?_
  refine g_ald rfl (g_A (a := 816) (kd := 1) (n := 396) rfl (by decide)) (by decide) (show nI (6 * t + j) = nI (6 * t + j) from (rfl : nI (6 * t + j) = nI (6 * t + j))) (by omega) (show _ = nI m from hx) ?_
  refine g_pure 2 (i' := 74) (lv' := [some (vR 800), some (vI (nI k)), some (vI (nI n)), some (vI (nI b)), some (vI (nI t)), some (vI (nI j)), some (vI (nI m)), z7]) (st' := [vI (nI m)]) rfl ?_
  refine g_if1 (i' := 76) (P := 0 ≤ m) rfl rfl (g_geN (show nI m = nI m from (rfl : nI m = nI m)) (show 0 = nI 0 from (show (0 : Int32) = nI 0 from rfl)) (by omega) (by omega)) (fun _ => ?_) (fun h2 => absurd (by omega) h2)
  refine g_pure 2 (i' := 78) (lv' := [some (vR 800), some (vI (nI k)), some (vI (nI n)), some (vI (nI b)), some (vI (nI t)), some (vI (nI j)), some (vI (nI m)), z7]) (st' := [vI (nI m), vI (nI b)]) rfl ?_
  refine g_cS1 rfl (args := [vI (nI b), vI (nI m)]) (rest := []) rfl rfl rfl (s_316n (d := d + 7) (by omega) (by omega)) ?_
  have t3 := Nat.le_max_left b m
  have t4 := Nat.le_max_right b m
  refine g_pure 8 (i' := 87) (lv' := [some (vR 800), some (vI (nI k)), some (vI (nI n)), some (vI (nI (max b m))), some (vI (nI t)), some (vI (nI j)), some (vI (nI m)), z7]) (st' := [vI (nI m), vI (nI j), vI (nI t + 1), vI (nI k), vR 800]) rfl ?_
  refine gW_eq (lv' := [some (vR 800), some (vI (nI k)), some (vI (nI n)), some (vI (nI (max b m))), some (vI (nI t)), some (vI (nI j)), some (vI (nI m)), z7]) (st' := [vI (nI m), vI (nI j), vI (nI (t + 1)), vI (nI k), vR 800]) rfl (by rw [(show (nI t + 1) = nI (t + 1) from ((g_add (rfl : nI t = nI t) (show (1 : Int32) = nI 1 from rfl))).trans (congrArg nI (by omega)))]) rfl ?_
  exact o1

theorem b_302_62x {X : Nat × (Nat → Int32)} {d : Nat} {p : Nat → Nat} {sg : Mg} {Q : am_R → Prop} {B : Nat} {S : Nat → Int32} (hI : Inv B S) (hS : sg 801 = S) {k : Nat} {n : Nat} {b : Nat} {t : Nat} {j : Nat} {z6 : Option AV} {z7 : Option AV} (u_k : k ≤ 7) (u_n : n ≤ 60) (u_b : b ≤ 60) (u_t : t ≤ 60) (u_j : j ≤ 5) (q1 : j < sn S 0) (hx : sg 816 (6 * t + j) = -1)
    (o1 : gW X (d + 8) k_302 62 [some (vR 800), some (vI (nI k)), some (vI (nI n)), some (vI (nI b)), some (vI (nI t)), some (vI (nI (j + 1))), some (vI (-1)), z7] [] p sg Q) :
    gW X (d + 8) k_302 62 [some (vR 800), some (vI (nI k)), some (vI (nI n)), some (vI (nI b)), some (vI (nI t)), some (vI (nI j)), z6, z7] [] p sg Q := by
  have b0 := hI.b0; have b1 := hI.b1; have b2 := hI.b2; have b3 := hI.b3; have b4 := hI.b4; have b5 := hI.b5; have b6 := hI.b6; have b7 := hI.b7; have b8 := hI.b8; have b9 := hI.b9; have b14 := hI.b14
  refine g_pure 2 (i' := 64) (lv' := [some (vR 800), some (vI (nI k)), some (vI (nI n)), some (vI (nI b)), some (vI (nI t)), some (vI (nI j)), z6, z7]) (st' := [vR 800, vI (nI j)]) rfl ?_
  refine g_cV1 rfl (args := [vR 800]) (rest := [vI (nI j)]) rfl rfl rfl (s_195 (d := d + 7) hS) ?_
  refine g_if2 (i' := 127) (P := sn S 0 ≤ j) rfl rfl (g_geN (show nI j = nI j from (rfl : nI j = nI j)) (show S 0 = nI (sn S 0) from (hI.c0)) (by omega) (by omega)) (fun h1 => absurd h1 (by omega)) (fun _ => ?_)
  refine g_pure 4 (i' := 70) (lv' := [some (vR 800), some (vI (nI k)), some (vI (nI n)), some (vI (nI b)), some (vI (nI t)), some (vI (nI j)), z6, z7]) (st' := [vI (nI j), vI (nI t), vR 816]) rfl ?_
  refine g_cS1 rfl (args := [vI (nI t), vI (nI j)]) (rest := [vR 816]) rfl rfl rfl (s_277 (d := d + 7) (by omega) (by omega)) ?_
  refine g_ald rfl (g_A (a := 816) (kd := 1) (n := 396) rfl (by decide)) (by decide) (show nI (6 * t + j) = nI (6 * t + j) from (rfl : nI (6 * t + j) = nI (6 * t + j))) (by omega) (show _ = (-1) from hx) ?_
  refine g_pure 2 (i' := 74) (lv' := [some (vR 800), some (vI (nI k)), some (vI (nI n)), some (vI (nI b)), some (vI (nI t)), some (vI (nI j)), some (vI (-1)), z7]) (st' := [vI (-1)]) rfl ?_
  refine g_if1 (i' := 76) (P := 0 ≤ ((-1) : Int32)) rfl rfl Iff.rfl (fun h2 => absurd h2 (by decide)) (fun _ => ?_)
  refine g_pure 3 (i' := 62) (lv' := [some (vR 800), some (vI (nI k)), some (vI (nI n)), some (vI (nI b)), some (vI (nI t)), some (vI (nI j + 1)), some (vI (-1)), z7]) (st' := []) rfl ?_
  refine gW_eq (lv' := [some (vR 800), some (vI (nI k)), some (vI (nI n)), some (vI (nI b)), some (vI (nI t)), some (vI (nI (j + 1))), some (vI (-1)), z7]) (st' := []) (by rw [(show (nI j + 1) = nI (j + 1) from ((g_add (rfl : nI j = nI j) (show (1 : Int32) = nI 1 from rfl))).trans (congrArg nI (by omega)))]) rfl rfl ?_
  exact o1

theorem b_302_62e {X : Nat × (Nat → Int32)} {d : Nat} {p : Nat → Nat} {sg : Mg} {Q : am_R → Prop} {B : Nat} {S : Nat → Int32} (hI : Inv B S) (hS : sg 801 = S) {k : Nat} {n : Nat} {b : Nat} {t : Nat} {z6 : Option AV} {z7 : Option AV} (u_k : k ≤ 7) (u_n : n ≤ 60) (u_b : b ≤ 60) (u_t : t ≤ 60) (u_snS0 : sn S 0 ≤ 6)
    (o1 : gW X (d + 8) k_302 57 [some (vR 800), some (vI (nI k)), some (vI (nI n)), some (vI (nI b)), some (vI (nI (t + 1))), some (vI (nI (sn S 0))), z6, z7] [] p sg Q) :
    gW X (d + 8) k_302 62 [some (vR 800), some (vI (nI k)), some (vI (nI n)), some (vI (nI b)), some (vI (nI t)), some (vI (nI (sn S 0))), z6, z7] [] p sg Q := by
  have b0 := hI.b0; have b1 := hI.b1; have b2 := hI.b2; have b3 := hI.b3; have b4 := hI.b4; have b5 := hI.b5; have b6 := hI.b6; have b7 := hI.b7; have b8 := hI.b8; have b9 := hI.b9; have b14 := hI.b14
  refine g_pure 2 (i' := 64) (lv' := [some (vR 800), some (vI (nI k)), some (vI (nI n)), some (vI (nI b)), some (vI (nI t)), some (vI (nI (sn S 0))), z6, z7]) (st' := [vR 800, vI (nI (sn S 0))]) rfl ?_
  refine g_cV1 rfl (args := [vR 800]) (rest := [vI (nI (sn S 0))]) rfl rfl rfl (s_195 (d := d + 7) hS) ?_
  refine g_if2 (i' := 127) (P := sn S 0 ≤ sn S 0) rfl rfl (g_geN (show nI (sn S 0) = nI (sn S 0) from (rfl : nI (sn S 0) = nI (sn S 0))) (show S 0 = nI (sn S 0) from (hI.c0)) (by omega) (by omega)) (fun _ => ?_) (fun h1 => absurd (Nat.le_refl _) h1)
  refine g_pure 2 (i' := 57) (lv' := [some (vR 800), some (vI (nI k)), some (vI (nI n)), some (vI (nI b)), some (vI (nI t + 1)), some (vI (nI (sn S 0))), z6, z7]) (st' := []) rfl ?_
  refine gW_eq (lv' := [some (vR 800), some (vI (nI k)), some (vI (nI n)), some (vI (nI b)), some (vI (nI (t + 1))), some (vI (nI (sn S 0))), z6, z7]) (st' := []) (by rw [(show (nI t + 1) = nI (t + 1) from ((g_add (rfl : nI t = nI t) (show (1 : Int32) = nI 1 from rfl))).trans (congrArg nI (by omega)))]) rfl rfl ?_
  exact o1

theorem b_302_88 {X : Nat × (Nat → Int32)} {d : Nat} {p : Nat → Nat} {sg : Mg} {Q : am_R → Prop} {B : Nat} {S : Nat → Int32} (hI : Inv B S) (hS : sg 801 = S) (hA : InvA S) {k : Nat} {n : Nat} {b : Nat} {t : Nat} {v : Nat} {m : Nat} {z7 : Option AV} (u_k : k ≤ 7) (u_n : n ≤ 60) (u_b : b ≤ 60) (u_t : t ≤ 60) (u_v : v ≤ 5) (u_m : m ≤ 60) (q1 : k < sn S 1) (q2 : v < sn S 0)
    (o1 : ∀ s1 : Mg, (∃ f, s1 = va_up sg 807 f) → (¬ (bd S k v (sn S 8 + t) = true)) → gW X (d + 8) k_302 98 [some (vR 800), some (vI (nI k)), some (vI (nI n)), some (vI (nI b)), some (vI (nI t)), some (vI (nI v)), some (vI (nI m)), z7] [] p s1 Q)
    (o2 : ∀ s1 : Mg, (∃ f, s1 = va_up sg 807 f) → ((bd S k v (sn S 8 + t) = true)) → gW X (d + 8) k_302 125 [some (vR 800), some (vI (nI k)), some (vI (nI n)), some (vI (nI b)), some (vI (nI t)), some (vI (nI v)), some (vI (nI m)), z7] [] p s1 Q) :
    gW X (d + 8) k_302 88 [some (vR 800), some (vI (nI k)), some (vI (nI n)), some (vI (nI b)), some (vI (nI t)), some (vI (nI v)), some (vI (nI m)), z7] [] p sg Q := by
  have b0 := hI.b0; have b1 := hI.b1; have b2 := hI.b2; have b3 := hI.b3; have b4 := hI.b4; have b5 := hI.b5; have b6 := hI.b6; have b7 := hI.b7; have b8 := hI.b8; have b9 := hI.b9; have b14 := hI.b14
  refine g_pure 4 (i' := 92) (lv' := [some (vR 800), some (vI (nI k)), some (vI (nI n)), some (vI (nI b)), some (vI (nI t)), some (vI (nI v)), some (vI (nI m)), z7]) (st' := [vR 800, vI (nI v), vI (nI k), vR 800]) rfl ?_
  refine g_cV1 rfl (args := [vR 800]) (rest := [vI (nI v), vI (nI k), vR 800]) rfl rfl rfl (s_248 (d := d + 7) hS) ?_
  refine g_pure 2 (i' := 95) (lv' := [some (vR 800), some (vI (nI k)), some (vI (nI n)), some (vI (nI b)), some (vI (nI t)), some (vI (nI v)), some (vI (nI m)), z7]) (st' := [vI (S 8 + nI t), vI (nI v), vI (nI k), vR 800]) rfl ?_
  refine gW_eq (lv' := [some (vR 800), some (vI (nI k)), some (vI (nI n)), some (vI (nI b)), some (vI (nI t)), some (vI (nI v)), some (vI (nI m)), z7]) (st' := [vI (nI (sn S 8 + t)), vI (nI v), vI (nI k), vR 800]) rfl (by rw [(show (S 8 + nI t) = nI (sn S 8 + t) from ((g_add (hI.c8) (rfl : nI t = nI t))).trans (congrArg nI (by omega)))]) rfl ?_
  refine g_cV1E rfl (args := [vR 800, vI (nI k), vI (nI v), vI (nI (sn S 8 + t))]) (rest := []) rfl rfl rfl (s_254b (d := d + 1) hI hS hA (by omega) (by omega) (by omega)) (fun s1 es1 => ?_)
  have hSs1 : s1 801 = S := by obtain ⟨f9, h9⟩ := es1; rw [h9, va_up_ne _ _ (by decide)]; exact hS
  refine g_if1 (i' := 98) (P := ¬ (bd S k v (sn S 8 + t) = true)) rfl rfl g_eqB (fun h2 => ?_) (fun h2 => ?_)
  · exact o1 s1 es1 h2
  · have h2 := Classical.not_not.mp h2
    refine g_pure 1 (i' := 125) (lv' := [some (vR 800), some (vI (nI k)), some (vI (nI n)), some (vI (nI b)), some (vI (nI t)), some (vI (nI v)), some (vI (nI m)), z7]) (st' := []) rfl ?_
    exact o2 s1 es1 h2

theorem b_302_100 {X : Nat × (Nat → Int32)} {d : Nat} {p : Nat → Nat} {sg : Mg} {Q : am_R → Prop} {B : Nat} {S : Nat → Int32} (hI : Inv B S) (hS : sg 801 = S) {k : Nat} {n : Nat} {b : Nat} {t : Nat} {v : Nat} {m : Nat} {j : Nat} (u_k : k ≤ 7) (u_n : n ≤ 60) (u_b : b ≤ 60) (u_t : t ≤ 60) (u_v : v ≤ 5) (u_m : m ≤ 60) (u_j : j ≤ 12) (q1 : v < sn S 0)
    (o1 : (sn S 3 ≤ j) → gW X (d + 8) k_302 125 [some (vR 800), some (vI (nI k)), some (vI (nI n)), some (vI (nI b)), some (vI (nI t)), some (vI (nI v)), some (vI (nI m)), some (vI (nI j))] [] p sg Q)
    (o2 : (¬ (sn S 3 ≤ j)) → (otP S j v) → gW X (d + 8) k_302 109 [some (vR 800), some (vI (nI k)), some (vI (nI n)), some (vI (nI b)), some (vI (nI t)), some (vI (nI v)), some (vI (nI m)), some (vI (nI j))] [] p sg Q)
    (o3 : (¬ (sn S 3 ≤ j)) → (¬ otP S j v) → gW X (d + 8) k_302 100 [some (vR 800), some (vI (nI k)), some (vI (nI n)), some (vI (nI b)), some (vI (nI t)), some (vI (nI v)), some (vI (nI m)), some (vI (nI (j + 1)))] [] p sg Q) :
    gW X (d + 8) k_302 100 [some (vR 800), some (vI (nI k)), some (vI (nI n)), some (vI (nI b)), some (vI (nI t)), some (vI (nI v)), some (vI (nI m)), some (vI (nI j))] [] p sg Q := by
  have b0 := hI.b0; have b1 := hI.b1; have b2 := hI.b2; have b3 := hI.b3; have b4 := hI.b4; have b5 := hI.b5; have b6 := hI.b6; have b7 := hI.b7; have b8 := hI.b8; have b9 := hI.b9; have b14 := hI.b14
  refine g_pure 2 (i' := 102) (lv' := [some (vR 800), some (vI (nI k)), some (vI (nI n)), some (vI (nI b)), some (vI (nI t)), some (vI (nI v)), some (vI (nI m)), some (vI (nI j))]) (st' := [vR 800, vI (nI j)]) rfl ?_
  refine g_cV1 rfl (args := [vR 800]) (rest := [vI (nI j)]) rfl rfl rfl (s_209 (d := d + 7) hS) ?_
  refine g_if2 (i' := 125) (P := sn S 3 ≤ j) rfl rfl (g_geN (show nI j = nI j from (rfl : nI j = nI j)) (show S 3 = nI (sn S 3) from (hI.c3)) (by omega) (by omega)) (fun h1 => ?_) (fun h1 => ?_)
  · exact o1 h1
  · refine g_pure 3 (i' := 107) (lv' := [some (vR 800), some (vI (nI k)), some (vI (nI n)), some (vI (nI b)), some (vI (nI t)), some (vI (nI v)), some (vI (nI m)), some (vI (nI j))]) (st' := [vI (nI v), vI (nI j), vR 800]) rfl ?_
    by_cases h2 : otP S j v
    · refine g_cV1 rfl (args := [vR 800, vI (nI j), vI (nI v)]) (rest := []) rfl rfl rfl (s_253o (d := d + 6) hI hS (by omega) (by omega) (by omega) (by assumption)) ?_
      have t3 := otN_lt hI (r := j) (by omega) v
      refine g_if1 (i' := 123) (P := otN S j v < 0) rfl rfl (g_ltN (show nI (otN S j v) = nI (otN S j v) from (rfl : nI (otN S j v) = nI (otN S j v))) (show 0 = nI 0 from (show (0 : Int32) = nI 0 from rfl)) (by omega) (by omega)) (fun h4 => absurd h4 (by omega)) (fun _ => ?_)
      exact o2 h1 h2
    · refine g_cV1 rfl (args := [vR 800, vI (nI j), vI (nI v)]) (rest := []) rfl rfl rfl (s_253x (d := d + 6) hI hS (by omega) (by omega) (by omega) (by assumption)) ?_
      refine g_if1 (i' := 123) (P := ((-1) : Int32) < 0) rfl rfl Iff.rfl (fun _ => ?_) (fun h5 => absurd (by decide) h5)
      refine g_pure 2 (i' := 100) (lv' := [some (vR 800), some (vI (nI k)), some (vI (nI n)), some (vI (nI b)), some (vI (nI t)), some (vI (nI v)), some (vI (nI m)), some (vI (nI j + 1))]) (st' := []) rfl ?_
      refine gW_eq (lv' := [some (vR 800), some (vI (nI k)), some (vI (nI n)), some (vI (nI b)), some (vI (nI t)), some (vI (nI v)), some (vI (nI m)), some (vI (nI (j + 1)))]) (st' := []) (by rw [(show (nI j + 1) = nI (j + 1) from ((g_add (rfl : nI j = nI j) (show (1 : Int32) = nI 1 from rfl))).trans (congrArg nI (by omega)))]) rfl rfl ?_
      exact o3 h1 h2

theorem b_302_109 {X : Nat × (Nat → Int32)} {d : Nat} {p : Nat → Nat} {sg : Mg} {Q : am_R → Prop} {B : Nat} {S : Nat → Int32} (hI : Inv B S) (hS : sg 801 = S) {k : Nat} {n : Nat} {b : Nat} {t : Nat} {v : Nat} {m : Nat} {j : Nat} (u_k : k ≤ 7) (u_n : n ≤ 60) (u_b : b ≤ 60) (u_t : t ≤ 60) (u_v : v ≤ 5) (u_m : m ≤ 60) (u_j : j ≤ 11) (q1 : v < sn S 0) (q2 : j < sn S 3) (hO : otP S j v)
    (o1 : gW X (d + 8) k_302 122 [some (vR 800), some (vI (nI k)), some (vI (nI n)), some (vI (nI b)), some (vI (nI t)), some (vI (nI v)), some (vI (nI m)), some (vI (nI j))] [vI (nI m), vI (nI (otN S j v)), vI (nI (t + sn S (177 + 3 * j + 2))), vI (nI k), vR 800] p sg Q) :
    gW X (d + 8) k_302 109 [some (vR 800), some (vI (nI k)), some (vI (nI n)), some (vI (nI b)), some (vI (nI t)), some (vI (nI v)), some (vI (nI m)), some (vI (nI j))] [] p sg Q := by
  have b0 := hI.b0; have b1 := hI.b1; have b2 := hI.b2; have b3 := hI.b3; have b4 := hI.b4; have b5 := hI.b5; have b6 := hI.b6; have b7 := hI.b7; have b8 := hI.b8; have b9 := hI.b9; have b14 := hI.b14
  refine g_pure 6 (i' := 115) (lv' := [some (vR 800), some (vI (nI k)), some (vI (nI n)), some (vI (nI b)), some (vI (nI t)), some (vI (nI v)), some (vI (nI m)), some (vI (nI j))]) (st' := [vI 2, vI (nI j), vR 800, vI (nI t), vI (nI k), vR 800]) rfl ?_
  refine gW_eq (st' := [vI (nI 2), vI (nI j), vR 800, vI (nI t), vI (nI k), vR 800]) rfl (by rw [(show (2 : Int32) = nI 2 from rfl)]) rfl ?_
  refine g_cV1 rfl (args := [vR 800, vI (nI j), vI (nI 2)]) (rest := [vI (nI t), vI (nI k), vR 800]) rfl rfl rfl (s_241 (d := d + 7) hS (by omega) (by omega)) ?_
  have t1 := (hI.roa (k := j) (by omega)).2.2.1
  have t1b := t1.2
  refine g_pure 4 (i' := 120) (lv' := [some (vR 800), some (vI (nI k)), some (vI (nI n)), some (vI (nI b)), some (vI (nI t)), some (vI (nI v)), some (vI (nI m)), some (vI (nI j))]) (st' := [vI (nI v), vI (nI j), vR 800, vI (nI t + S (177 + 3 * j + 2)), vI (nI k), vR 800]) rfl ?_
  refine gW_eq (lv' := [some (vR 800), some (vI (nI k)), some (vI (nI n)), some (vI (nI b)), some (vI (nI t)), some (vI (nI v)), some (vI (nI m)), some (vI (nI j))]) (st' := [vI (nI v), vI (nI j), vR 800, vI (nI (t + sn S (177 + 3 * j + 2))), vI (nI k), vR 800]) rfl (by rw [(show (nI t + S (177 + 3 * j + 2)) = nI (t + sn S (177 + 3 * j + 2)) from ((g_add (rfl : nI t = nI t) t1.1)).trans (congrArg nI (by omega)))]) rfl ?_
  refine g_cV1 rfl (args := [vR 800, vI (nI j), vI (nI v)]) (rest := [vI (nI (t + sn S (177 + 3 * j + 2))), vI (nI k), vR 800]) rfl rfl rfl (s_253o (d := d + 6) hI hS (by omega) (by omega) (by omega) hO) ?_
  have t2 := otN_lt hI (r := j) (by omega) v
  refine g_pure 1 (i' := 122) (lv' := [some (vR 800), some (vI (nI k)), some (vI (nI n)), some (vI (nI b)), some (vI (nI t)), some (vI (nI v)), some (vI (nI m)), some (vI (nI j))]) (st' := [vI (nI m), vI (nI (otN S j v)), vI (nI (t + sn S (177 + 3 * j + 2))), vI (nI k), vR 800]) rfl ?_
  exact o1

def ffM (s : Mg) (G : Nat → Nat) : Prop := ∀ i, i < 396 → s 816 i = nI (G i) - 1
theorem ffM.put {S : Nat → Int32} {t v b y : Nat} {s s' : Mg} {G : Nat → Nat} (h : ffM s G) (ht : t ≤ 65) (hv : v < 6) (hg : gB G) (hb : b ≤ 60) (hy : y = b + feN S t v) (e : s' = mu s 816 (6 * t + v) (if s 816 (6 * t + v) < nI y then nI y else s 816 (6 * t + v))) : ffM s' (rF S G t v b) := by
  have h9 := (feN_le (S := S) (t := t) (v := v)).1
  have hx := hg t v hv
  rw [h _ (by omega), m1_max (by omega) (by omega), hy] at e
  intro i hi
  unfold rF
  rw [e]
  by_cases c : i = 6 * t + v
  · subst c
    rw [mu_self, if_pos rfl]
  · rw [if_neg c, mu_idx c]
    exact h i hi
theorem ffM.eq {s s' : Mg} {G : Nat → Nat} (h : ffM s G) (e : s' 816 = s 816) : ffM s' G := fun i hi => by rw [e]; exact h i hi
def S6 (sg s : Mg) : Prop := ∀ c, c ≠ 807 → c ≠ 816 → s c = sg c
theorem S6.rf (sg : Mg) : S6 sg sg := fun _ _ _ => rfl
theorem S6.tr {a b c : Mg} (h : S6 a b) (g : S6 b c) : S6 a c := fun x h1 h2 => (g x h1 h2).trans (h x h1 h2)
theorem S6.S {sg s : Mg} {S : Nat → Int32} (h : S6 sg s) (hS : sg 801 = S) : s 801 = S := by rw [h 801 (by decide) (by decide)]; exact hS
theorem S6.up7 {sg s : Mg} (h : ∃ f, s = va_up sg 807 f) : S6 sg s ∧ s 816 = sg 816 := by
  obtain ⟨f, rfl⟩ := h
  exact ⟨fun c c1 _ => va_up_ne _ _ c1, va_up_ne _ _ (by decide)⟩
theorem s_303 {X : Nat × (Nat → Int32)} {d : Nat} {p : Nat → Nat} {sg : Mg} {B : Nat} {S : Nat → Int32} (hI : Inv B S) (hS : sg 801 = S) {z : AV} (hz : am_cat z = 1) {t v b : Nat} {G : Nat → Nat} (ht : t ≤ 65) (hv : v ≤ 5) (hb : b ≤ 60) (hM : ffM sg G) (hg : gB G) : gF X (d + 4) 303 [vR 800, z, vI (nI t), vI (nI v), vI (nI b)] p sg (fun r => ∃ s, ((∀ c, c ≠ 816 → s c = sg c) ∧ ffM s (rF S G t v b)) ∧ r = gR0 p s) := by
  refine g_in (cd := k_303) (nL := 6) (rc := 13) rfl (g_A (a := 800) (kd := 0) (n := 12) rfl (by decide)) (fun q hq => ?_) (b_303_0 hI hS ht hv hb (fun h2 s6 e6 => ?_) (fun h2 h3 s6 e6 => ?_) (fun h2 h3 s6 e6 => ?_))
  · simp only [List.mem_cons, List.not_mem_nil, or_false] at hq
    rcases hq with rfl | rfl | rfl | rfl | rfl
    · rfl
    · exact hz
    · rfl
    · rfl
    · rfl
  · exact ⟨s6, ⟨fun c hc => by rw [e6, mu_ne (by omega)], hM.put (y := b) ht (by omega) hg hb (by unfold feN; rw [if_neg (fun g => g.1 h2)]; rfl) e6⟩, rfl⟩
  · exact ⟨s6, ⟨fun c hc => by rw [e6, mu_ne (by omega)], hM.put (y := b) ht (by omega) hg hb (by unfold feN; rw [if_neg (fun g => h3 (of_decide_eq_true g.2))]; rfl) e6⟩, rfl⟩
  · exact ⟨s6, ⟨fun c hc => by rw [e6, mu_ne (by omega)], hM.put (y := b + 1) ht (by omega) hg hb (by unfold feN; rw [if_pos ⟨h2, decide_eq_true h3⟩]) e6⟩, rfl⟩
/-- one goes on from a village -/
theorem l_302_87 {X : Nat × (Nat → Int32)} {d : Nat} {p : Nat → Nat} {sg : Mg} {B : Nat} {S : Nat → Int32} (hI : Inv B S) (hS : sg 801 = S) (hA : InvA S) {Q : am_R → Prop} {k v t n b : Nat} {G : Nat → Nat} (hk : k < sn S 1) (hv : v < sn S 0) (ht : t ≤ n) (hn : n ≤ 60) (hb : b ≤ 60) (hM : ffM sg G) (hg : gB G) (h0 : ¬ G (6 * t + v) = 0) {z7 : Option AV}
    (x : ∀ s z7, S6 sg s → ffM s (ceG S k G t v) → gW X (d + 8) k_302 62 [some (vR 800), some (vI (nI k)), some (vI (nI n)), some (vI (nI b)), some (vI (nI t)), some (vI (nI (v + 1))), some (vI (nI (G (6 * t + v) - 1))), z7] [] p s Q) :
    gW X (d + 8) k_302 87 [some (vR 800), some (vI (nI k)), some (vI (nI n)), some (vI (nI b)), some (vI (nI t)), some (vI (nI v)), some (vI (nI (G (6 * t + v) - 1))), z7] [vI (nI (G (6 * t + v) - 1)), vI (nI v), vI (nI (t + 1)), vI (nI k), vR 800] p sg Q := by
  have b0 := hI.b0; have b1 := hI.b1; have b3 := hI.b3; have b8 := hI.b8
  have hG := hg t v (by omega)
  have hg1 : gB (rF S G (t + 1) v (G (6 * t + v) - 1)) := hg.rF (by omega) (by have := (feN_le (S := S) (t := t + 1) (v := v)).1; omega)
  unfold ceG at x
  generalize hbb : G (6 * t + v) - 1 = m at hg1 x
  have hm : m ≤ t := by omega
  refine g_cV0E rfl (args := [vR 800, vI (nI k), vI (nI (t + 1)), vI (nI v), vI (nI m)]) (rest := []) rfl rfl rfl (s_303 (d := d + 4) hI hS rfl (by omega) (by omega) (by omega) hM hg) (fun s1 h1 => ?_)
  obtain ⟨f1, m1⟩ := h1
  have w1 : S6 sg s1 := fun c _ c2 => f1 c c2
  have fin : ∀ s G' z7, S6 sg s → ffM s G' → G' = (if bd S k v (sn S 8 + t) = true then rF S G (t + 1) v m else rdG S t v m (sn S 3) (rF S G (t + 1) v m)) → gW X (d + 8) k_302 125 [some (vR 800), some (vI (nI k)), some (vI (nI n)), some (vI (nI b)), some (vI (nI t)), some (vI (nI v)), some (vI (nI m)), z7] [] p s Q := fun s G' z7 hs hM hG' => by
    refine g_pure 2 (i' := 62) (lv' := [some (vR 800), some (vI (nI k)), some (vI (nI n)), some (vI (nI b)), some (vI (nI t)), some (vI (nI v + 1)), some (vI (nI m)), z7]) (st' := []) rfl ?_
    refine gW_eq (lv' := [some (vR 800), some (vI (nI k)), some (vI (nI n)), some (vI (nI b)), some (vI (nI t)), some (vI (nI (v + 1))), some (vI (nI m)), z7]) (by rw [nI_succ]) rfl rfl ?_
    subst hG'
    exact x s z7 hs hM
  refine b_302_88 hI (w1.S hS) hA (by omega) hn hb (by omega) (by omega) (by omega) hk hv (fun s2 h2 h3 => ?_) (fun s2 h2 h3 => ?_)
  · obtain ⟨g1, g2⟩ := S6.up7 h2
    refine g_pure 2 (i' := 100) (lv' := [some (vR 800), some (vI (nI k)), some (vI (nI n)), some (vI (nI b)), some (vI (nI t)), some (vI (nI v)), some (vI (nI m)), some (vI (nI 0))]) (st' := []) rfl ?_
    have key := g_upI (P := fun j => ∀ s, S6 sg s → ffM s (rdG S t v m j (rF S G (t + 1) v m)) → gW X (d + 8) k_302 100 [some (vR 800), some (vI (nI k)), some (vI (nI n)), some (vI (nI b)), some (vI (nI t)), some (vI (nI v)), some (vI (nI m)), some (vI (nI j))] [] p s Q) (I := fun _ => True) (n := sn S 3) (a := 0) (by omega) trivial ?_ ?_
    · exact key s2 (w1.tr g1) (m1.eq g2)
    · intro j _ hj _ ih s hs hM
      have ih := ih trivial
      have hl := (hI.roa hj).2.2.1.2
      have hu := otN_lt hI hj v
      have hgj := hg1.rd hI (v := v) hm j (by omega)
      have e : rdG S t v m (j + 1) (rF S G (t + 1) v m) = if (sn S (177 + 3 * j) = v ∨ sn S (177 + 3 * j + 1) = v) then rF S (rdG S t v m j (rF S G (t + 1) v m)) (t + sn S (177 + 3 * j + 2)) (otN S j v) m else rdG S t v m j (rF S G (t + 1) v m) := rfl
      rw [e] at ih
      refine b_302_100 hI (hs.S hS) (by omega) hn hb (by omega) (by omega) (by omega) (by omega) hv (fun h => by omega) (fun _ ho => ?_) (fun _ ho => ?_)
      · rw [if_pos (show sn S (177 + 3 * j) = v ∨ sn S (177 + 3 * j + 1) = v from ho)] at ih
        refine b_302_109 hI (hs.S hS) (by omega) hn hb (by omega) (by omega) (by omega) (by omega) hv hj ho ?_
        refine g_cV0E rfl (args := [vR 800, vI (nI k), vI (nI (t + sn S (177 + 3 * j + 2))), vI (nI (otN S j v)), vI (nI m)]) (rest := []) rfl rfl rfl (s_303 (d := d + 4) hI (hs.S hS) rfl (by omega) (by omega) (by omega) hM hgj) (fun s4 h4 => ?_)
        refine g_pure 2 (i' := 100) (lv' := [some (vR 800), some (vI (nI k)), some (vI (nI n)), some (vI (nI b)), some (vI (nI t)), some (vI (nI v)), some (vI (nI m)), some (vI (nI j + 1))]) (st' := []) rfl ?_
        refine gW_eq (lv' := [some (vR 800), some (vI (nI k)), some (vI (nI n)), some (vI (nI b)), some (vI (nI t)), some (vI (nI v)), some (vI (nI m)), some (vI (nI (j + 1)))]) (by rw [nI_succ]) rfl rfl ?_
        exact ih _ (hs.tr (fun c _ c2 => h4.1 c c2)) h4.2
      · rw [if_neg (show ¬ (sn S (177 + 3 * j) = v ∨ sn S (177 + 3 * j + 1) = v) from ho)] at ih
        exact ih _ hs hM
    · intro _ s hs hM
      exact b_302_100 hI (hs.S hS) (by omega) hn hb (by omega) (by omega) (by omega) (by omega) hv (fun _ => fin s _ _ hs hM (by rw [if_neg h3])) (fun h => by omega) (fun h => by omega)
  · obtain ⟨g1, g2⟩ := S6.up7 h2
    exact fin s2 _ z7 (w1.tr g1) (m1.eq g2) (by rw [if_pos h3])
theorem m_feasted {X : Nat × (Nat → Int32)} {d : Nat} {p : Nat → Nat} {sg : Mg} {B : Nat} {A : AS} (hI : RI B A) (hR : RM A sg) {x y : Int32} : gF X (d + 9) 302 [vR 800, vI x, vI y] p sg (mR A A (feastedR A.S x y) p sg) := by
  have b0 := hI.1.b0; have b1 := hI.1.b1; have b8 := hI.1.b8
  refine g_in (cd := k_302) (nL := 8) (rc := 13) rfl (g_A (a := 800) (kd := 0) (n := 12) rfl (by decide)) (g_c1 rfl) (b_302_0 hI.1 hR.1 (fun s1 f1 h s3 f3 => ?_) (fun s1 f1 k ek hk n en hn => ?_) (fun s1 f1 k ek hk h s3 f3 => ?_))
  · refine mR_x ((hR.th f1).th f3) (fun c hc => by rw [f3, f1, up_hi hc, up_hi hc]) (c := 0) (by rw [f3, mu_self]) ?_
    unfold feastedR
    rw [if_neg h]
  · subst ek en
    have hR1 := hR.th f1
    have hn60 := hn.2
    obtain ⟨k1, k2, k3, _, _⟩ := hm_ok hI.1 hk
    obtain ⟨z1, z2⟩ := feZ_ok (S := A.S) (k := k) (n := n) (by omega)
    have fin : ∀ s, S6 s1 s → mR A A (feastedR A.S (nI k) (nI n)) p sg (gRv p s (nI (fedV A.S k n))) := fun s hs => by
      refine mR_v (hR1.sr (fun c c1 c2 c3 c4 c5 => hs c c1 c3)) (fun c hc => by rw [hs c (by omega) (by omega), f1, up_hi hc]) (by rw [hs 800 (by decide) (by decide), f1, mu_self]) ?_
      unfold feastedR
      rw [if_pos ((okx_nI (by omega)).mpr (by omega)), if_pos ((okr_nI (by omega) (by omega) (by omega)).mpr hn), nI_clamp (by omega), nI_clamp (by omega)]
    refine g_pure 2 (i' := 26) (lv' := [some (vR 800), some (vI (nI k)), some (vI (nI n)), some (vI (nI 0)), none, none, none, none]) (st' := []) rfl ?_
    have key := g_upI (P := fun j => ∀ s, S6 s1 s → (∀ i, i < j → s 816 i = -1) → gW X (d + 8) k_302 26 [some (vR 800), some (vI (nI k)), some (vI (nI n)), some (vI (nI j)), none, none, none, none] [] p s (mR A A (feastedR A.S (nI k) (nI n)) p sg)) (I := fun _ => True) (n := 396) (a := 0) (by omega) trivial ?_ ?_
    · exact key s1 (S6.rf _) (fun i hi => absurd hi (Nat.not_lt_zero _))
    · intro j _ hj _ ih s hs hz
      refine b_302_26 hI.1 (hs.S hR1.1) (by omega) hn60 (by omega) (fun h => by omega) (fun _ s2 e2 => ?_)
      refine ih trivial s2 (hs.tr (fun c _ c2 => by rw [e2, mu_ne c2])) (fun i hi => ?_)
      by_cases e : i = j
      · subst e; rw [e2, mu_self]
      · rw [e2, mu_idx e]; exact hz i (by omega)
    · intro _ s hs hz
      have hM0 : ffM s (fun _ => 0) := fun i hi => hz i hi
      refine b_302_26 hI.1 (hs.S hR1.1) (by omega) hn60 (by omega) (fun _ => ?_) (fun h => by omega)
      have main : ∀ s z3 z4, S6 s1 s → ffM s (feZ A.S k n).1 → gW X (d + 8) k_302 53 [some (vR 800), some (vI (nI k)), some (vI (nI n)), z3, z4, none, none, none] [] p s (mR A A (feastedR A.S (nI k) (nI n)) p sg) := by
        intro s z3 z4 hs hM
        refine g_pure 4 (i' := 57) (lv' := [some (vR 800), some (vI (nI k)), some (vI (nI n)), some (vI (nI 0)), some (vI (nI 0)), none, none, none]) (st' := []) rfl ?_
        have key := g_upI (P := fun t => ∀ s z5 z6 z7, S6 s1 s → ffM s (feT A.S k (feZ A.S k n) t).1 → gW X (d + 8) k_302 57 [some (vR 800), some (vI (nI k)), some (vI (nI n)), some (vI (nI (feT A.S k (feZ A.S k n) t).2)), some (vI (nI t)), z5, z6, z7] [] p s (mR A A (feastedR A.S (nI k) (nI n)) p sg)) (I := fun _ => True) (n := n + 1) (a := 0) (by omega) trivial ?_ ?_
        · have := key s none none none hs hM
          rw [show (feT A.S k (feZ A.S k n) 0).2 = (feZ A.S k n).2 from rfl, z2] at this
          exact this
        · intro t _ ht2 _ ih s z5 z6 z7 hs hM
          have ih := ih trivial
          obtain ⟨t1, t2⟩ := feT_ok hI.1 (k := k) z1 z2 t
          refine b_302_57 hI.1 (hs.S hR1.1) (by omega) hn60 (by omega) (by omega) (fun h => by omega) (fun _ => ?_)
          have t2 : (feT A.S k (feZ A.S k n) t).2 ≤ t := by omega
          rw [show feT A.S k (feZ A.S k n) (t + 1) = feV A.S k t (feT A.S k (feZ A.S k n) t) (sn A.S 0) from rfl] at ih
          generalize feT A.S k (feZ A.S k n) t = Z at hM t1 t2 ih
          have key2 := g_upI (P := fun j => ∀ s z6 z7, S6 s1 s → ffM s (feV A.S k t Z j).1 → gW X (d + 8) k_302 62 [some (vR 800), some (vI (nI k)), some (vI (nI n)), some (vI (nI (feV A.S k t Z j).2)), some (vI (nI t)), some (vI (nI j)), z6, z7] [] p s (mR A A (feastedR A.S (nI k) (nI n)) p sg)) (I := fun _ => True) (n := sn A.S 0) (a := 0) (by omega) trivial ?_ ?_
          · exact key2 s z6 z7 hs hM
          · intro j _ hj _ ih2 s z6 z7 hs hM
            have ih2 := ih2 trivial
            obtain ⟨v1, v2⟩ := feV_ok hI.1 (k := k) t1 t2 j (by omega)
            have hG := v1 t j (by omega)
            have e : feV A.S k t Z (j + 1) = if (feV A.S k t Z j).1 (6 * t + j) = 0 then feV A.S k t Z j else (ceG A.S k (feV A.S k t Z j).1 t j, max (feV A.S k t Z j).2 ((feV A.S k t Z j).1 (6 * t + j) - 1)) := rfl
            rw [e] at ih2
            have hx := hM (6 * t + j) (by omega)
            by_cases c : (feV A.S k t Z j).1 (6 * t + j) = 0
            · rw [if_pos c] at ih2
              rw [c] at hx
              exact b_302_62x hI.1 (hs.S hR1.1) (by omega) hn60 (by omega) (by omega) (by omega) hj hx (ih2 _ _ _ hs hM)
            · rw [if_neg c] at ih2
              rw [show (1 : Int32) = nI 1 from rfl, nI_sub (by omega)] at hx
              refine b_302_62 hI.1 (hs.S hR1.1) (by omega) hn60 (by omega) (by omega) (by omega) (by omega) hj hx ?_
              exact l_302_87 hI.1 (hs.S hR1.1) hI.2.2.1 hk hj (by omega) hn60 (by omega) hM v1 c (fun s5 z7 h5 m5 => ih2 _ _ _ (hs.tr h5) m5)
          · intro _ s z6 z7 hs hM
            obtain ⟨v1, v2⟩ := feV_ok hI.1 (k := k) t1 t2 _ (Nat.le_refl _)
            exact b_302_62e hI.1 (hs.S hR1.1) (by omega) hn60 (by omega) (by omega) (by omega) (ih _ _ _ _ hs hM)
        · intro _ s z5 z6 z7 hs hM
          obtain ⟨t1, t2⟩ := feT_ok hI.1 (k := k) z1 z2 (n + 1)
          exact b_302_57 hI.1 (hs.S hR1.1) (by omega) hn60 (by omega) (by omega) (fun _ => fin s hs) (fun h => by omega)
      refine b_302_38 hI.1 (hs.S hR1.1) (by omega) hn60 hk (fun h => main _ _ _ hs ?_) (fun h => ?_)
      · unfold feZ; rw [if_neg (by omega)]; exact hM0
      · refine gW_eq (st' := [vI (nI 0), vI (nI (hmN A.S k)), vI (nI (stN A.S k - sn A.S 8)), vI (nI k), vR 800]) rfl rfl rfl ?_
        refine g_cV0E rfl (args := [vR 800, vI (nI k), vI (nI (stN A.S k - sn A.S 8)), vI (nI (hmN A.S k)), vI (nI 0)]) (rest := []) rfl rfl rfl (s_303 (d := d + 4) hI.1 (hs.S hR1.1) rfl (by omega) (by omega) (by omega) hM0 (fun _ _ _ => Nat.zero_le _)) (fun s4 h4 => ?_)
        refine main _ _ _ (hs.tr (fun c _ c2 => h4.1 c c2)) ?_
        unfold feZ; rw [if_pos (by omega)]; exact h4.2
  · subst ek
    refine mR_x ((hR.th f1).th f3) (fun c hc => by rw [f3, f1, up_hi hc, up_hi hc]) (c := 1) (by rw [f3, mu_self]) ?_
    unfold feastedR
    rw [if_pos ((okx_nI (by omega)).mpr (by omega)), if_neg (show ¬ okr y 1 60 from h)]
