/-! SMALL WRITERS (made by wip/whole/gen42.py) -/
theorem s_313n {X : Nat × (Nat → Int32)} {d : Nat} {p : Nat → Nat} {sg : Mg} {m n : Nat} (hm : m < 2147483648) (hn : n < 2147483648) : gF X (d + 1) 313 [vI (nI m), vI (nI n)] p sg (fun r => r = gRv p sg (nI (min m n))) := by
  refine gF_mono s_313 (fun r hr => hr.trans (congrArg (gRv p sg) ?_))
  by_cases h : n < m
  · rw [if_pos ((nI_ltI hn hm).mpr h), Nat.min_eq_right (by omega)]
  · rw [if_neg (fun h9 => h ((nI_ltI hn hm).mp h9)), Nat.min_eq_left (by omega)]
theorem s_316n {X : Nat × (Nat → Int32)} {d : Nat} {p : Nat → Nat} {sg : Mg} {m n : Nat} (hm : m < 2147483648) (hn : n < 2147483648) : gF X (d + 1) 316 [vI (nI m), vI (nI n)] p sg (fun r => r = gRv p sg (nI (max m n))) := by
  refine gF_mono s_316 (fun r hr => hr.trans (congrArg (gRv p sg) ?_))
  by_cases h : m < n
  · rw [if_pos ((nI_ltI hm hn).mpr h), Nat.max_eq_right (by omega)]
  · rw [if_neg (fun h9 => h ((nI_ltI hm hn).mp h9)), Nat.max_eq_left (by omega)]

theorem b_205_0 {X : Nat × (Nat → Int32)} {d : Nat} {p : Nat → Nat} {sg : Mg} {Q : am_R → Prop} {S : Nat → Int32} (hS : sg 801 = S) {k : Nat} {j : Nat} {x : Int32} (u_k : k ≤ 7) (u_j : j ≤ 5)
    (o1 : ∀ s1 : Mg, s1 = mu sg 801 (113 + 6 * k + j) x → s1 801 = (upd S (113 + 6 * k + j) x) → Q (gR0 p s1)) :
    gW X (d) k_205 0 [some (vR 800), some (vI (nI k)), some (vI (nI j)), some (vI x)] [] p sg Q := by
  refine g_pure 10 (i' := 10) (lv' := [some (vR 800), some (vI (nI k)), some (vI (nI j)), some (vI x)]) (st' := [vI x, vI ((113 + (6 * nI k)) + nI j), vR 801]) rfl ?_
  refine gW_eq (lv' := [some (vR 800), some (vI (nI k)), some (vI (nI j)), some (vI x)]) (st' := [vI x, vI (nI (113 + 6 * k + j)), vR 801]) rfl (by rw [(show ((113 + (6 * nI k)) + nI j) = nI (113 + 6 * k + j) from ((g_add (g_add (show (113 : Int32) = nI 113 from rfl) (g_mul (show (6 : Int32) = nI 6 from rfl) (rfl : nI k = nI k))) (rfl : nI j = nI j))).trans (congrArg nI (by omega)))]) rfl ?_
  refine g_ast rfl (g_A (a := 801) (kd := 1) (n := 2407) rfl (by decide)) (by decide) (show nI (113 + 6 * k + j) = nI (113 + 6 * k + j) from (rfl : nI (113 + 6 * k + j) = nI (113 + 6 * k + j))) (by omega) ?_
  refine g_setv (fun s1 es1 => ?_)
  have hSs1 : s1 801 = upd S (113 + 6 * k + j) x := by rw [es1, mu_row, hS]
  refine g_vret rfl ?_
  exact o1 s1 es1 hSs1

theorem s_205 {X : Nat × (Nat → Int32)} {d : Nat} {p : Nat → Nat} {sg : Mg} {k j : Nat} {x : Int32} (hk : k ≤ 7) (hj : j ≤ 5) : gF X (d + 1) 205 [vR 800, vI (nI k), vI (nI j), vI x] p sg (fun r => r = gR0 p (mu sg 801 (113 + 6 * k + j) x)) :=
  g_in (cd := k_205) (nL := 4) (rc := 13) rfl (g_A (a := 800) (kd := 0) (n := 12) rfl (by decide)) (g_c1 rfl) (b_205_0 (S := sg 801) rfl hk hj (fun s1 e _ => by rw [e]))

theorem b_129_0 {X : Nat × (Nat → Int32)} {d : Nat} {p : Nat → Nat} {sg : Mg} {Q : am_R → Prop} {B : Nat} {S : Nat → Int32} (hI : Inv B S) (hL : cwL 250 sg S) (hD : cwD 200 sg S) {x : Int32}
    (o1 : ∀ s1 : Mg, s1 = mu sg 250 13 x → cwL 250 s1 (upd S 16 x) → cwD 200 s1 (upd S 16 x) → Q (gRv p s1 (S 16))) :
    gW X (d) k_129 0 [some (vR 0), some (vI x), none] [] p sg Q := by
  have b0 := hI.b0; have b1 := hI.b1; have b2 := hI.b2; have b3 := hI.b3; have b4 := hI.b4; have b5 := hI.b5; have b6 := hI.b6; have b7 := hI.b7; have b8 := hI.b8; have b9 := hI.b9; have b14 := hI.b14
  refine g_pure 3 (i' := 3) (lv' := [some (vR 0), some (vI x), none]) (st' := [vR 250]) rfl ?_
  refine g_getI rfl (g_A (a := 250) (kd := 0) (n := 6) rfl (by decide)) (show _ = S 16 from hL.f13) ?_
  refine g_pure 5 (i' := 9) (lv' := [some (vR 0), some (vI x), some (vI (S 16))]) (st' := [vI x, vR 250]) rfl ?_
  refine g_putI rfl (g_A (a := 250) (kd := 0) (n := 6) rfl (by decide)) ?_
  refine g_setv (fun s1 es1 => ?_)
  have hLs1 : cwL 250 s1 (upd S 16 x) := by rw [es1]; exact hL.wfld (by decide)
  have hDs1 : cwD 200 s1 (upd S 16 x) := by rw [es1]; exact hD.life (by decide) (by unfold noLand; omega)
  refine g_pure 1 (i' := 11) (lv' := [some (vR 0), some (vI x), some (vI (S 16))]) (st' := [vI (S 16)]) rfl ?_
  refine g_iret rfl ?_
  exact o1 s1 es1 hLs1 hDs1

theorem b_311_0 {X : Nat × (Nat → Int32)} {d : Nat} {p : Nat → Nat} {sg : Mg} {Q : am_R → Prop} {B : Nat} {S : Nat → Int32} (hI : Inv B S) (hS : sg 801 = S) {x : Int32}
    (o1 : ∀ s1 : Mg, s1 = mu sg 800 0 0 → ∀ s2 : Mg, s2 = mu s1 801 16 x → s2 801 = (upd S 16 x) → Q (gRv p s2 (S 16))) :
    gW X (d) k_311 0 [some (vR 800), some (vI x), none] [] p sg Q := by
  have b0 := hI.b0; have b1 := hI.b1; have b2 := hI.b2; have b3 := hI.b3; have b4 := hI.b4; have b5 := hI.b5; have b6 := hI.b6; have b7 := hI.b7; have b8 := hI.b8; have b9 := hI.b9; have b14 := hI.b14
  refine g_pure 2 (i' := 2) (lv' := [some (vR 800), some (vI x), none]) (st' := [vI 0, vR 800]) rfl ?_
  refine g_putI rfl (g_A (a := 800) (kd := 0) (n := 12) rfl (by decide)) ?_
  refine g_setv (fun s1 es1 => ?_)
  have hSs1 : s1 801 = S := by rw [es1, mu_ne (by decide), hS]
  refine g_pure 3 (i' := 6) (lv' := [some (vR 800), some (vI x), none]) (st' := [vI 16, vR 801]) rfl ?_
  refine g_ald rfl (g_A (a := 801) (kd := 1) (n := 2407) rfl (by decide)) (by decide) (show 16 = nI 16 from (show (16 : Int32) = nI 16 from rfl)) (by decide) (show _ = S 16 from (congrFun hSs1 16)) ?_
  refine g_pure 5 (i' := 12) (lv' := [some (vR 800), some (vI x), some (vI (S 16))]) (st' := [vI x, vI 16, vR 801]) rfl ?_
  refine g_ast rfl (g_A (a := 801) (kd := 1) (n := 2407) rfl (by decide)) (by decide) (show 16 = nI 16 from (show (16 : Int32) = nI 16 from rfl)) (by decide) ?_
  refine g_setv (fun s2 es2 => ?_)
  have hSs2 : s2 801 = upd S 16 x := by rw [es2, mu_row, hSs1]
  refine g_pure 1 (i' := 14) (lv' := [some (vR 800), some (vI x), some (vI (S 16))]) (st' := [vI (S 16)]) rfl ?_
  refine g_iret rfl ?_
  exact o1 s1 es1 s2 es2 hSs2

theorem c_seed {X : Nat × (Nat → Int32)} {d : Nat} {p : Nat → Nat} {sg : Mg} {B : Nat} {S : Nat → Int32} (hI : Inv B S) (hL : cwL 250 sg S) (hD : cwD 200 sg S) {x : Int32} : gF X (d + 1) 129 [vR 0, vI x] p sg (fun r => ∃ s, (Eqx [250] sg s ∧ cwL 250 s (upd S 16 x) ∧ cwD 200 s (upd S 16 x)) ∧ r = gRv p s (S 16)) :=
  g_in (cd := k_129) (nL := 3) (rc := 12) rfl (g_A (a := 0) (kd := 0) (n := 11) rfl (by decide)) (g_c1 rfl) (b_129_0 hI hL hD (fun s1 e h1 h2 => ⟨s1, ⟨by rw [e]; exact (Eqx.rf _ sg).up (by decide), h1, h2⟩, rfl⟩))
theorem m_seed {X : Nat × (Nat → Int32)} {d : Nat} {p : Nat → Nat} {sg : Mg} {B : Nat} {S : Nat → Int32} (hI : Inv B S) (hS : sg 801 = S) {x : Int32} : gF X (d + 1) 311 [vR 800, vI x] p sg (fun r => r = gRv p (mu (mu sg 800 0 0) 801 16 x) (S 16)) :=
  g_in (cd := k_311) (nL := 3) (rc := 13) rfl (g_A (a := 800) (kd := 0) (n := 12) rfl (by decide)) (g_c1 rfl) (b_311_0 hI hS (fun s1 e1 s2 e2 _ => by rw [e2, e1]))
