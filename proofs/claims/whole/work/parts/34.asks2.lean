/-! WHAT IS ASKED of roads, debts, tasks, facts (made by wip/whole/gen34.py) -/
theorem okx_nr {x a b : Int32} {hi : Nat} (ha : a = 0 ∧ b = nI hi ∧ hi < 2147483648) (h : ¬ (¬ (x < a) ∧ ¬ (b < x))) : ¬ okx x (hi + 1) := by
  obtain ⟨rfl, rfl, h2⟩ := ha
  rintro ⟨h3, h4⟩
  obtain ⟨k, hk, rfl⟩ := nI_of h3
  rw [nI_clamp hk] at h4
  exact h ⟨h3, nI_nlt (by omega) h2⟩
theorem s_231x {X : Nat × (Nat → Int32)} {d : Nat} {p : Nat → Nat} {sg : Mg} {x : Int32} {n : Nat} (hn : n ≤ 100000) : gF X (d + 1) 231 [vI x, vI 0, vI (nI n - 1)] p sg (fun r => r = gRv p sg (if okx x n then 1 else 0)) :=
  gF_mono s_231 (fun r hr => hr.trans (congrArg (gRv p sg) (g_ite (okx_in rfl (by omega)))))

theorem s_231t {X : Nat × (Nat → Int32)} {d : Nat} {p : Nat → Nat} {sg : Mg} {x lo hi : Int32} (h : ¬ (x < lo) ∧ ¬ (hi < x)) : gF X (d + 1) 231 [vI x, vI lo, vI hi] p sg (fun r => r = gRv p sg 1) :=
  gF_mono s_231 (fun r hr => hr.trans (congrArg (gRv p sg) (if_pos h)))

def roadR (S : Nat → Int32) (x : Int32) (y : Int32) : Nat × Int32 := if okx x (sn S 3) then (if okx y (3) then ((0, S (177 + 3 * x.toNatClampNeg + y.toNatClampNeg))) else (2, 0)) else (1, 0)

theorem b_146_0 {X : Nat × (Nat → Int32)} {d : Nat} {p : Nat → Nat} {sg : Mg} {Q : am_R → Prop} {B : Nat} {S : Nat → Int32} (hI : Inv B S) (hL : cwL 250 sg S) (hD : cwD 200 sg S) {x : Int32} {y : Int32}
    (o1 : ∀ n2 : Nat, x = nI n2 → n2 < sn S 3 → ∀ n4 : Nat, y = nI n4 → n4 < 3 → Q (gRv p sg (S (177 + 3 * n2 + n4))))
    (o2 : ∀ n2 : Nat, x = nI n2 → n2 < sn S 3 → (¬ okx y 3) → Q (gRx p sg 3))
    (o3 : (¬ okx x (sn S 3)) → Q (gRx p sg 2)) :
    gW X (d + 3) k_146 0 [some (vR 0), some (vI x), some (vI y)] [] p sg Q := by
  have b0 := hI.b0; have b1 := hI.b1; have b2 := hI.b2; have b3 := hI.b3; have b4 := hI.b4; have b5 := hI.b5; have b6 := hI.b6; have b7 := hI.b7; have b8 := hI.b8; have b9 := hI.b9; have b14 := hI.b14
  refine g_pure 3 (i' := 3) (lv' := [some (vR 0), some (vI x), some (vI y)]) (st' := [vI x, vI 3, vR 0]) rfl ?_
  by_cases h1 : okx x (sn S 3)
  · obtain ⟨n2, ln2, en2⟩ := okx_of h1
    subst en2
    refine gW_eq (st' := [vI (nI n2), vI (nI 3), vR 0]) rfl (by rw [(show (3 : Int32) = nI 3 from rfl)]) rfl ?_
    refine g_cV0 rfl (args := [vR 0, vI (nI 3), vI (nI n2)]) (rest := []) rfl rfl rfl (s_140o (d := d + 1) hI hL hD (by omega) ((okx_nI (by omega)).mpr (by omega))) ?_
    refine g_pure 2 (i' := 6) (lv' := [some (vR 0), some (vI (nI n2)), some (vI y)]) (st' := [vI 3, vI y]) rfl ?_
    by_cases h3 : okx y 3
    · obtain ⟨n4, ln4, en4⟩ := okx_of h3
      subst en4
      refine gW_eq (st' := [vI (nI 3), vI (nI n4)]) rfl (by rw [(show (3 : Int32) = nI 3 from rfl)]) rfl ?_
      refine g_cS0 rfl (args := [vI (nI n4), vI (nI 3)]) (rest := []) rfl rfl rfl (s_147o (d := d + 2) (by omega) ((okx_nI (by omega)).mpr (by omega))) ?_
      refine g_pure 5 (i' := 12) (lv' := [some (vR 0), some (vI (nI n2)), some (vI (nI n4))]) (st' := [vI (nI n2), vR 205]) rfl ?_
      refine g_aald rfl (Or.inl rfl) (g_A (a := 205) (kd := 5) (n := 12) rfl (by decide)) (by decide) (show nI n2 = nI n2 from (rfl : nI n2 = nI n2)) (by omega) (gR_205 (by omega)) ?_
      refine g_pure 1 (i' := 14) (lv' := [some (vR 0), some (vI (nI n2)), some (vI (nI n4))]) (st' := [vI (nI n4), vR (222 + n2)]) rfl ?_
      refine g_ald rfl (gA_205 (by omega)) (by decide) (show nI n4 = nI n4 from (rfl : nI n4 = nI n4)) (by omega) (show _ = S (177 + 3 * n2 + n4) from (hD.roa n4 (by omega) (by omega))) ?_
      refine g_iret rfl ?_
      exact o1 n2 rfl ln2 n4 rfl ln4
    · refine gW_eq (st' := [vI (nI 3), vI y]) rfl (by rw [(show (3 : Int32) = nI 3 from rfl)]) rfl ?_
      refine g_cSx rfl (args := [vI y, vI (nI 3)]) (rest := []) rfl rfl rfl (s_147x (d := d + 2) (by omega) (by assumption)) ?_
      exact o2 n2 rfl ln2 h3
  · refine gW_eq (st' := [vI x, vI (nI 3), vR 0]) rfl (by rw [(show (3 : Int32) = nI 3 from rfl)]) rfl ?_
    refine g_cVx rfl (args := [vR 0, vI (nI 3), vI x]) (rest := []) rfl rfl rfl (s_140x (d := d + 1) hI hL hD (by omega) (by assumption)) ?_
    exact o3 h1

theorem c_road {X : Nat × (Nat → Int32)} {d : Nat} {p : Nat → Nat} {sg : Mg} {B : Nat} {S : Nat → Int32} (hI : Inv B S) (hL : cwL 250 sg S) (hD : cwD 200 sg S) {x : Int32} {y : Int32} : gF X (d + 4) 146 [vR 0, vI x, vI y] p sg (oC p sg (fun c => if c = 1 then 2 else 3) (roadR S x y)) := by
  have b0 := hI.b0; have b1 := hI.b1; have b2 := hI.b2; have b3 := hI.b3; have b4 := hI.b4; have b5 := hI.b5; have b9 := hI.b9; have b14 := hI.b14
  refine g_in (cd := k_146) (nL := 3) (rc := 12) rfl (g_A (a := 0) (kd := 0) (n := 11) rfl (by decide)) (g_c1 rfl) (b_146_0 hI hL hD (fun n1 e1 l1 n2 e2 l2 => oC_0 ?_) (fun n1 e1 l1 h2 => oC_x (c := 1) ?_ rfl) (fun h1 => oC_x (c := 0) ?_ rfl))
  · subst e1 e2
    unfold roadR
    rw [if_pos ((okx_nI (by omega)).mpr (by omega)), if_pos ((okx_nI (by omega)).mpr (by omega))]
    try simp (disch := omega) only [nI_clamp]
    try exact congrArg (fun j => ((0, S j) : Nat × Int32)) (by omega)
    try (split <;> first | rfl | contradiction)
    try rfl
  · subst e1
    unfold roadR
    rw [if_pos ((okx_nI (by omega)).mpr (by omega)), if_neg h2]
  · skip
    unfold roadR
    rw [if_neg h1]

theorem b_240_0 {X : Nat × (Nat → Int32)} {d : Nat} {p : Nat → Nat} {sg : Mg} {Q : am_R → Prop} {B : Nat} {S : Nat → Int32} (hI : Inv B S) (hS : sg 801 = S) {x : Int32} {y : Int32}
    (o1 : ∀ s1 : Mg, s1 = mu sg 800 0 0 → ∀ n3 : Nat, x = nI n3 → n3 < sn S 3 → ∀ n6 : Nat, y = nI n6 → 0 ≤ n6 ∧ n6 ≤ 2 → Q (gRv p s1 (S (177 + 3 * n3 + n6))))
    (o2 : ∀ s1 : Mg, s1 = mu sg 800 0 0 → ∀ n3 : Nat, x = nI n3 → n3 < sn S 3 → (¬ (¬ (y < 0) ∧ ¬ (2 < y))) → ∀ s8 : Mg, s8 = mu s1 800 0 (nI 2) → Q (gRv p s8 0))
    (o3 : ∀ s1 : Mg, s1 = mu sg 800 0 0 → (¬ okx x (sn S 3)) → ∀ s10 : Mg, s10 = mu s1 800 0 (nI 1) → Q (gRv p s10 0)) :
    gW X (d + 2) k_240 0 [some (vR 800), some (vI x), some (vI y)] [] p sg Q := by
  have b0 := hI.b0; have b1 := hI.b1; have b2 := hI.b2; have b3 := hI.b3; have b4 := hI.b4; have b5 := hI.b5; have b6 := hI.b6; have b7 := hI.b7; have b8 := hI.b8; have b9 := hI.b9; have b14 := hI.b14
  refine g_pure 2 (i' := 2) (lv' := [some (vR 800), some (vI x), some (vI y)]) (st' := [vI 0, vR 800]) rfl ?_
  refine g_putI rfl (g_A (a := 800) (kd := 0) (n := 12) rfl (by decide)) ?_
  refine g_setv (fun s1 es1 => ?_)
  have hSs1 : s1 801 = S := by rw [es1, mu_ne (by decide), hS]
  refine g_pure 4 (i' := 7) (lv' := [some (vR 800), some (vI x), some (vI y)]) (st' := [vR 800, vI 0, vI x, vR 800]) rfl ?_
  refine g_cV1 rfl (args := [vR 800]) (rest := [vI 0, vI x, vR 800]) rfl rfl rfl (s_209 (d := d + 1) hSs1) ?_
  refine g_pure 1 (i' := 9) (lv' := [some (vR 800), some (vI x), some (vI y)]) (st' := [vI 1, vI (S 3), vI 0, vI x, vR 800]) rfl ?_
  refine gW_eq (lv' := [some (vR 800), some (vI x), some (vI y)]) (st' := [vI 1, vI (nI (sn S 3)), vI 0, vI x, vR 800]) rfl (by rw [(show S 3 = nI (sn S 3) from (hI.c3))]) rfl ?_
  refine g_pure 1 (i' := 10) (lv' := [some (vR 800), some (vI x), some (vI y)]) (st' := [vI (nI (sn S 3) - 1), vI 0, vI x, vR 800]) rfl ?_
  refine g_cS1 rfl (args := [vI x, vI 0, vI (nI (sn S 3) - 1)]) (rest := [vR 800]) rfl rfl rfl (s_231x (d := d + 1) (by omega)) ?_
  refine g_if1 (i' := 14) (P := okx x (sn S 3)) rfl rfl g_neB (fun h2 => ?_) (fun h2 => ?_)
  · obtain ⟨n3, ln3, en3⟩ := okx_of h2
    subst en3
    refine g_pure 2 (i' := 16) (lv' := [some (vR 800), some (vI (nI n3)), some (vI y)]) (st' := [vI 1, vI 0, vR 800]) rfl ?_
    refine gW_eq (st' := [vI (nI 1), vI 0, vR 800]) rfl (by rw [(show (1 : Int32) = nI 1 from rfl)]) rfl ?_
    refine g_cV1 rfl (args := [vR 800, vI 0, vI (nI 1)]) (rest := []) rfl rfl rfl (s_227f (d := d + 1) (by omega)) ?_
    refine g_if1 (i' := 30) (P := ¬ 0 = 0) rfl rfl (g_neN (show 0 = nI 0 from (show (0 : Int32) = nI 0 from rfl)) (show 0 = nI 0 from (show (0 : Int32) = nI 0 from rfl)) (by omega) (by omega)) (fun h4 => absurd h4 (by omega)) (fun _ => ?_)
    refine g_pure 4 (i' := 22) (lv' := [some (vR 800), some (vI (nI n3)), some (vI y)]) (st' := [vI 2, vI 0, vI y, vR 800]) rfl ?_
    refine g_cS1 rfl (args := [vI y, vI 0, vI 2]) (rest := [vR 800]) rfl rfl rfl (s_231 (d := d + 1) ) ?_
    refine g_if1 (i' := 26) (P := (¬ (y < 0) ∧ ¬ (2 < y))) rfl rfl g_neB (fun h5 => ?_) (fun h5 => ?_)
    · obtain ⟨n6, ln6, en6⟩ := okr_of (lo := 0) (hi := 2) (by decide) h5
      subst en6
      refine g_pure 2 (i' := 28) (lv' := [some (vR 800), some (vI (nI n3)), some (vI (nI n6))]) (st' := [vI 2, vI 0, vR 800]) rfl ?_
      refine gW_eq (st' := [vI (nI 2), vI 0, vR 800]) rfl (by rw [(show (2 : Int32) = nI 2 from rfl)]) rfl ?_
      refine g_cV1 rfl (args := [vR 800, vI 0, vI (nI 2)]) (rest := []) rfl rfl rfl (s_227f (d := d + 1) (by omega)) ?_
      refine g_if1 (i' := 32) (P := 0 = 0) rfl rfl (g_eqN (show 0 = nI 0 from (show (0 : Int32) = nI 0 from rfl)) (show 0 = nI 0 from (show (0 : Int32) = nI 0 from rfl)) (by omega) (by omega)) (fun _ => ?_) (fun h7 => absurd (by omega) h7)
      refine g_pure 3 (i' := 35) (lv' := [some (vR 800), some (vI (nI n3)), some (vI (nI n6))]) (st' := [vI (nI n6), vI (nI n3), vR 800]) rfl ?_
      refine g_cV1 rfl (args := [vR 800, vI (nI n3), vI (nI n6)]) (rest := []) rfl rfl rfl (s_241 (d := d + 1) hSs1 (by omega) (by omega)) ?_
      refine g_iret rfl ?_
      exact o1 s1 es1 n3 rfl ln3 n6 rfl ln6
    · refine g_pure 3 (i' := 28) (lv' := [some (vR 800), some (vI (nI n3)), some (vI y)]) (st' := [vI 2, vI 1, vR 800]) rfl ?_
      refine gW_eq (st' := [vI (nI 2), vI 1, vR 800]) rfl (by rw [(show (2 : Int32) = nI 2 from rfl)]) rfl ?_
      refine g_cV1 rfl (args := [vR 800, vI 1, vI (nI 2)]) (rest := []) rfl rfl rfl (s_227t (d := d + 1) (by omega)) ?_
      refine g_setv (fun s8 es8 => ?_)
      have hSs8 : s8 801 = S := by rw [es8, mu_ne (by decide), hSs1]
      refine g_if1 (i' := 32) (P := 1 = 0) rfl rfl (g_eqN (show 1 = nI 1 from (show (1 : Int32) = nI 1 from rfl)) (show 0 = nI 0 from (show (0 : Int32) = nI 0 from rfl)) (by omega) (by omega)) (fun h9 => absurd h9 (by omega)) (fun _ => ?_)
      refine g_pure 2 (i' := 36) (lv' := [some (vR 800), some (vI (nI n3)), some (vI y)]) (st' := [vI 0]) rfl ?_
      refine g_iret rfl ?_
      exact o2 s1 es1 n3 rfl ln3 h5 s8 es8
  · refine g_pure 3 (i' := 16) (lv' := [some (vR 800), some (vI x), some (vI y)]) (st' := [vI 1, vI 1, vR 800]) rfl ?_
    refine gW_eq (st' := [vI (nI 1), vI 1, vR 800]) rfl (by rw [(show (1 : Int32) = nI 1 from rfl)]) rfl ?_
    refine g_cV1 rfl (args := [vR 800, vI 1, vI (nI 1)]) (rest := []) rfl rfl rfl (s_227t (d := d + 1) (by omega)) ?_
    refine g_setv (fun s10 es10 => ?_)
    have hSs10 : s10 801 = S := by rw [es10, mu_ne (by decide), hSs1]
    refine g_if1 (i' := 30) (P := ¬ 1 = 0) rfl rfl (g_neN (show 1 = nI 1 from (show (1 : Int32) = nI 1 from rfl)) (show 0 = nI 0 from (show (0 : Int32) = nI 0 from rfl)) (by omega) (by omega)) (fun _ => ?_) (fun h11 => absurd (by omega) h11)
    refine g_pure 2 (i' := 36) (lv' := [some (vR 800), some (vI x), some (vI y)]) (st' := [vI 0]) rfl ?_
    refine g_iret rfl ?_
    exact o3 s1 es1 h2 s10 es10

theorem m_road {X : Nat × (Nat → Int32)} {d : Nat} {p : Nat → Nat} {sg : Mg} {B : Nat} {S : Nat → Int32} (hI : Inv B S) (hS : sg 801 = S) {x : Int32} {y : Int32} : gF X (d + 3) 240 [vR 800, vI x, vI y] p sg (oM p sg (roadR S x y)) := by
  have b0 := hI.b0; have b1 := hI.b1; have b2 := hI.b2; have b3 := hI.b3; have b4 := hI.b4; have b5 := hI.b5; have b9 := hI.b9; have b14 := hI.b14
  refine g_in (cd := k_240) (nL := 3) (rc := 13) rfl (g_A (a := 800) (kd := 0) (n := 12) rfl (by decide)) (g_c1 rfl) (b_240_0 hI hS (fun s1 f1 n2 e2 l2 n3 e3 l3 => oM_0 f1 ?_) (fun s1 f1 n2 e2 l2 h3 s4 f4 => oM_x (c := 1) f1 f4 ?_) (fun s1 f1 h2 s3 f3 => oM_x (c := 0) f1 f3 ?_))
  · subst e2 e3
    unfold roadR
    rw [if_pos ((okx_nI (by omega)).mpr (by omega)), if_pos ((okx_nI (by omega)).mpr (by omega))]
    try simp (disch := omega) only [nI_clamp]
    try exact congrArg (fun j => ((0, S j) : Nat × Int32)) (by omega)
    try (split <;> first | rfl | contradiction)
    try rfl
  · subst e2
    unfold roadR
    rw [if_pos ((okx_nI (by omega)).mpr (by omega)), if_neg (okx_nr (hi := 2) (by decide) h3)]
  · skip
    unfold roadR
    rw [if_neg h2]

def debtR (S : Nat → Int32) (x : Int32) (y : Int32) : Nat × Int32 := if okx x (sn S 4) then (if okx y (7) then ((0, S (213 + 7 * x.toNatClampNeg + y.toNatClampNeg))) else (2, 0)) else (1, 0)

theorem b_148_0 {X : Nat × (Nat → Int32)} {d : Nat} {p : Nat → Nat} {sg : Mg} {Q : am_R → Prop} {B : Nat} {S : Nat → Int32} (hI : Inv B S) (hL : cwL 250 sg S) (hD : cwD 200 sg S) {x : Int32} {y : Int32}
    (o1 : ∀ n2 : Nat, x = nI n2 → n2 < sn S 4 → ∀ n4 : Nat, y = nI n4 → n4 < 7 → (¬ n4 = 6) → Q (gRv p sg (S (213 + 7 * n2 + n4))))
    (o2 : ∀ n2 : Nat, x = nI n2 → n2 < sn S 4 → ∀ n4 : Nat, y = nI n4 → n4 < 7 → (n4 = 6) → Q (gRv p sg (S (213 + 7 * n2 + 6))))
    (o3 : ∀ n2 : Nat, x = nI n2 → n2 < sn S 4 → (¬ okx y 7) → Q (gRx p sg 3))
    (o4 : (¬ okx x (sn S 4)) → Q (gRx p sg 2)) :
    gW X (d + 3) k_148 0 [some (vR 0), some (vI x), some (vI y)] [] p sg Q := by
  have b0 := hI.b0; have b1 := hI.b1; have b2 := hI.b2; have b3 := hI.b3; have b4 := hI.b4; have b5 := hI.b5; have b6 := hI.b6; have b7 := hI.b7; have b8 := hI.b8; have b9 := hI.b9; have b14 := hI.b14
  refine g_pure 3 (i' := 3) (lv' := [some (vR 0), some (vI x), some (vI y)]) (st' := [vI x, vI 4, vR 0]) rfl ?_
  by_cases h1 : okx x (sn S 4)
  · obtain ⟨n2, ln2, en2⟩ := okx_of h1
    subst en2
    refine gW_eq (st' := [vI (nI n2), vI (nI 4), vR 0]) rfl (by rw [(show (4 : Int32) = nI 4 from rfl)]) rfl ?_
    refine g_cV0 rfl (args := [vR 0, vI (nI 4), vI (nI n2)]) (rest := []) rfl rfl rfl (s_140o (d := d + 1) hI hL hD (by omega) ((okx_nI (by omega)).mpr (by omega))) ?_
    refine g_pure 2 (i' := 6) (lv' := [some (vR 0), some (vI (nI n2)), some (vI y)]) (st' := [vI 7, vI y]) rfl ?_
    by_cases h3 : okx y 7
    · obtain ⟨n4, ln4, en4⟩ := okx_of h3
      subst en4
      refine gW_eq (st' := [vI (nI 7), vI (nI n4)]) rfl (by rw [(show (7 : Int32) = nI 7 from rfl)]) rfl ?_
      refine g_cS0 rfl (args := [vI (nI n4), vI (nI 7)]) (rest := []) rfl rfl rfl (s_147o (d := d + 2) (by omega) ((okx_nI (by omega)).mpr (by omega))) ?_
      refine g_pure 2 (i' := 9) (lv' := [some (vR 0), some (vI (nI n2)), some (vI (nI n4))]) (st' := [vI 6, vI (nI n4)]) rfl ?_
      refine g_if2 (i' := 17) (P := ¬ n4 = 6) rfl rfl (g_neN (show nI n4 = nI n4 from (rfl : nI n4 = nI n4)) (show 6 = nI 6 from (show (6 : Int32) = nI 6 from rfl)) (by omega) (by omega)) (fun h5 => ?_) (fun h5 => ?_)
      · refine g_pure 5 (i' := 22) (lv' := [some (vR 0), some (vI (nI n2)), some (vI (nI n4))]) (st' := [vI (nI n2), vR 206]) rfl ?_
        refine g_aald rfl (Or.inl rfl) (g_A (a := 206) (kd := 5) (n := 8) rfl (by decide)) (by decide) (show nI n2 = nI n2 from (rfl : nI n2 = nI n2)) (by omega) (gR_206 (by omega)) ?_
        refine g_pure 1 (i' := 24) (lv' := [some (vR 0), some (vI (nI n2)), some (vI (nI n4))]) (st' := [vI (nI n4), vR (234 + n2)]) rfl ?_
        refine g_ald rfl (gA_206 (by omega)) (by decide) (show nI n4 = nI n4 from (rfl : nI n4 = nI n4)) (by omega) (show _ = S (213 + 7 * n2 + n4) from (hD.deb n4 (by omega) (by omega))) ?_
        refine g_iret rfl ?_
        exact o1 n2 rfl ln2 n4 rfl ln4 h5
      · have h5 := Classical.not_not.mp h5
        refine g_pure 5 (i' := 15) (lv' := [some (vR 0), some (vI (nI n2)), some (vI (nI n4))]) (st' := [vI (nI n2), vR 258]) rfl ?_
        refine g_ald rfl (g_A (a := 258) (kd := 1) (n := 8) rfl (by decide)) (by decide) (show nI n2 = nI n2 from (rfl : nI n2 = nI n2)) (by omega) (show _ = S (213 + 7 * n2 + 6) from (hL.mis (by omega))) ?_
        refine g_pure 1 (i' := 25) (lv' := [some (vR 0), some (vI (nI n2)), some (vI (nI n4))]) (st' := [vI (S (213 + 7 * n2 + 6))]) rfl ?_
        refine g_iret rfl ?_
        exact o2 n2 rfl ln2 n4 rfl ln4 h5
    · refine gW_eq (st' := [vI (nI 7), vI y]) rfl (by rw [(show (7 : Int32) = nI 7 from rfl)]) rfl ?_
      refine g_cSx rfl (args := [vI y, vI (nI 7)]) (rest := []) rfl rfl rfl (s_147x (d := d + 2) (by omega) (by assumption)) ?_
      exact o3 n2 rfl ln2 h3
  · refine gW_eq (st' := [vI x, vI (nI 4), vR 0]) rfl (by rw [(show (4 : Int32) = nI 4 from rfl)]) rfl ?_
    refine g_cVx rfl (args := [vR 0, vI (nI 4), vI x]) (rest := []) rfl rfl rfl (s_140x (d := d + 1) hI hL hD (by omega) (by assumption)) ?_
    exact o4 h1

theorem c_debt {X : Nat × (Nat → Int32)} {d : Nat} {p : Nat → Nat} {sg : Mg} {B : Nat} {S : Nat → Int32} (hI : Inv B S) (hL : cwL 250 sg S) (hD : cwD 200 sg S) {x : Int32} {y : Int32} : gF X (d + 4) 148 [vR 0, vI x, vI y] p sg (oC p sg (fun c => if c = 1 then 2 else 3) (debtR S x y)) := by
  have b0 := hI.b0; have b1 := hI.b1; have b2 := hI.b2; have b3 := hI.b3; have b4 := hI.b4; have b5 := hI.b5; have b9 := hI.b9; have b14 := hI.b14
  refine g_in (cd := k_148) (nL := 3) (rc := 12) rfl (g_A (a := 0) (kd := 0) (n := 11) rfl (by decide)) (g_c1 rfl) (b_148_0 hI hL hD (fun n1 e1 l1 n2 e2 l2 h3 => oC_0 ?_) (fun n1 e1 l1 n2 e2 l2 h3 => oC_0 ?_) (fun n1 e1 l1 h2 => oC_x (c := 1) ?_ rfl) (fun h1 => oC_x (c := 0) ?_ rfl))
  · subst e1 e2
    unfold debtR
    rw [if_pos ((okx_nI (by omega)).mpr (by omega)), if_pos ((okx_nI (by omega)).mpr (by omega))]
    try simp (disch := omega) only [nI_clamp]
    try exact congrArg (fun j => ((0, S j) : Nat × Int32)) (by omega)
    try (split <;> first | rfl | contradiction)
    try rfl
  · subst e1 e2
    unfold debtR
    rw [if_pos ((okx_nI (by omega)).mpr (by omega)), if_pos ((okx_nI (by omega)).mpr (by omega))]
    try simp (disch := omega) only [nI_clamp]
    try exact congrArg (fun j => ((0, S j) : Nat × Int32)) (by omega)
    try (split <;> first | rfl | contradiction)
    try rfl
  · subst e1
    unfold debtR
    rw [if_pos ((okx_nI (by omega)).mpr (by omega)), if_neg h2]
  · skip
    unfold debtR
    rw [if_neg h1]

theorem b_242_0 {X : Nat × (Nat → Int32)} {d : Nat} {p : Nat → Nat} {sg : Mg} {Q : am_R → Prop} {B : Nat} {S : Nat → Int32} (hI : Inv B S) (hS : sg 801 = S) {x : Int32} {y : Int32}
    (o1 : ∀ s1 : Mg, s1 = mu sg 800 0 0 → ∀ n3 : Nat, x = nI n3 → n3 < sn S 4 → ∀ n6 : Nat, y = nI n6 → 0 ≤ n6 ∧ n6 ≤ 6 → Q (gRv p s1 (S (213 + 7 * n3 + n6))))
    (o2 : ∀ s1 : Mg, s1 = mu sg 800 0 0 → ∀ n3 : Nat, x = nI n3 → n3 < sn S 4 → (¬ (¬ (y < 0) ∧ ¬ (6 < y))) → ∀ s8 : Mg, s8 = mu s1 800 0 (nI 2) → Q (gRv p s8 0))
    (o3 : ∀ s1 : Mg, s1 = mu sg 800 0 0 → (¬ okx x (sn S 4)) → ∀ s10 : Mg, s10 = mu s1 800 0 (nI 1) → Q (gRv p s10 0)) :
    gW X (d + 2) k_242 0 [some (vR 800), some (vI x), some (vI y)] [] p sg Q := by
  have b0 := hI.b0; have b1 := hI.b1; have b2 := hI.b2; have b3 := hI.b3; have b4 := hI.b4; have b5 := hI.b5; have b6 := hI.b6; have b7 := hI.b7; have b8 := hI.b8; have b9 := hI.b9; have b14 := hI.b14
  refine g_pure 2 (i' := 2) (lv' := [some (vR 800), some (vI x), some (vI y)]) (st' := [vI 0, vR 800]) rfl ?_
  refine g_putI rfl (g_A (a := 800) (kd := 0) (n := 12) rfl (by decide)) ?_
  refine g_setv (fun s1 es1 => ?_)
  have hSs1 : s1 801 = S := by rw [es1, mu_ne (by decide), hS]
  refine g_pure 6 (i' := 9) (lv' := [some (vR 800), some (vI x), some (vI y)]) (st' := [vI 4, vR 801, vI 0, vI x, vR 800]) rfl ?_
  refine g_ald rfl (g_A (a := 801) (kd := 1) (n := 2407) rfl (by decide)) (by decide) (show 4 = nI 4 from (show (4 : Int32) = nI 4 from rfl)) (by decide) (show _ = S 4 from (congrFun hSs1 4)) ?_
  refine g_pure 1 (i' := 11) (lv' := [some (vR 800), some (vI x), some (vI y)]) (st' := [vI 1, vI (S 4), vI 0, vI x, vR 800]) rfl ?_
  refine gW_eq (lv' := [some (vR 800), some (vI x), some (vI y)]) (st' := [vI 1, vI (nI (sn S 4)), vI 0, vI x, vR 800]) rfl (by rw [(show S 4 = nI (sn S 4) from (hI.c4))]) rfl ?_
  refine g_pure 1 (i' := 12) (lv' := [some (vR 800), some (vI x), some (vI y)]) (st' := [vI (nI (sn S 4) - 1), vI 0, vI x, vR 800]) rfl ?_
  refine g_cS1 rfl (args := [vI x, vI 0, vI (nI (sn S 4) - 1)]) (rest := [vR 800]) rfl rfl rfl (s_231x (d := d + 1) (by omega)) ?_
  refine g_if1 (i' := 16) (P := okx x (sn S 4)) rfl rfl g_neB (fun h2 => ?_) (fun h2 => ?_)
  · obtain ⟨n3, ln3, en3⟩ := okx_of h2
    subst en3
    refine g_pure 2 (i' := 18) (lv' := [some (vR 800), some (vI (nI n3)), some (vI y)]) (st' := [vI 1, vI 0, vR 800]) rfl ?_
    refine gW_eq (st' := [vI (nI 1), vI 0, vR 800]) rfl (by rw [(show (1 : Int32) = nI 1 from rfl)]) rfl ?_
    refine g_cV1 rfl (args := [vR 800, vI 0, vI (nI 1)]) (rest := []) rfl rfl rfl (s_227f (d := d + 1) (by omega)) ?_
    refine g_if1 (i' := 32) (P := ¬ 0 = 0) rfl rfl (g_neN (show 0 = nI 0 from (show (0 : Int32) = nI 0 from rfl)) (show 0 = nI 0 from (show (0 : Int32) = nI 0 from rfl)) (by omega) (by omega)) (fun h4 => absurd h4 (by omega)) (fun _ => ?_)
    refine g_pure 4 (i' := 24) (lv' := [some (vR 800), some (vI (nI n3)), some (vI y)]) (st' := [vI 6, vI 0, vI y, vR 800]) rfl ?_
    refine g_cS1 rfl (args := [vI y, vI 0, vI 6]) (rest := [vR 800]) rfl rfl rfl (s_231 (d := d + 1) ) ?_
    refine g_if1 (i' := 28) (P := (¬ (y < 0) ∧ ¬ (6 < y))) rfl rfl g_neB (fun h5 => ?_) (fun h5 => ?_)
    · obtain ⟨n6, ln6, en6⟩ := okr_of (lo := 0) (hi := 6) (by decide) h5
      subst en6
      refine g_pure 2 (i' := 30) (lv' := [some (vR 800), some (vI (nI n3)), some (vI (nI n6))]) (st' := [vI 2, vI 0, vR 800]) rfl ?_
      refine gW_eq (st' := [vI (nI 2), vI 0, vR 800]) rfl (by rw [(show (2 : Int32) = nI 2 from rfl)]) rfl ?_
      refine g_cV1 rfl (args := [vR 800, vI 0, vI (nI 2)]) (rest := []) rfl rfl rfl (s_227f (d := d + 1) (by omega)) ?_
      refine g_if1 (i' := 34) (P := 0 = 0) rfl rfl (g_eqN (show 0 = nI 0 from (show (0 : Int32) = nI 0 from rfl)) (show 0 = nI 0 from (show (0 : Int32) = nI 0 from rfl)) (by omega) (by omega)) (fun _ => ?_) (fun h7 => absurd (by omega) h7)
      refine g_pure 3 (i' := 37) (lv' := [some (vR 800), some (vI (nI n3)), some (vI (nI n6))]) (st' := [vI (nI n6), vI (nI n3), vR 800]) rfl ?_
      refine g_cV1 rfl (args := [vR 800, vI (nI n3), vI (nI n6)]) (rest := []) rfl rfl rfl (s_243 (d := d + 1) hSs1 (by omega) (by omega)) ?_
      refine g_iret rfl ?_
      exact o1 s1 es1 n3 rfl ln3 n6 rfl ln6
    · refine g_pure 3 (i' := 30) (lv' := [some (vR 800), some (vI (nI n3)), some (vI y)]) (st' := [vI 2, vI 1, vR 800]) rfl ?_
      refine gW_eq (st' := [vI (nI 2), vI 1, vR 800]) rfl (by rw [(show (2 : Int32) = nI 2 from rfl)]) rfl ?_
      refine g_cV1 rfl (args := [vR 800, vI 1, vI (nI 2)]) (rest := []) rfl rfl rfl (s_227t (d := d + 1) (by omega)) ?_
      refine g_setv (fun s8 es8 => ?_)
      have hSs8 : s8 801 = S := by rw [es8, mu_ne (by decide), hSs1]
      refine g_if1 (i' := 34) (P := 1 = 0) rfl rfl (g_eqN (show 1 = nI 1 from (show (1 : Int32) = nI 1 from rfl)) (show 0 = nI 0 from (show (0 : Int32) = nI 0 from rfl)) (by omega) (by omega)) (fun h9 => absurd h9 (by omega)) (fun _ => ?_)
      refine g_pure 2 (i' := 38) (lv' := [some (vR 800), some (vI (nI n3)), some (vI y)]) (st' := [vI 0]) rfl ?_
      refine g_iret rfl ?_
      exact o2 s1 es1 n3 rfl ln3 h5 s8 es8
  · refine g_pure 3 (i' := 18) (lv' := [some (vR 800), some (vI x), some (vI y)]) (st' := [vI 1, vI 1, vR 800]) rfl ?_
    refine gW_eq (st' := [vI (nI 1), vI 1, vR 800]) rfl (by rw [(show (1 : Int32) = nI 1 from rfl)]) rfl ?_
    refine g_cV1 rfl (args := [vR 800, vI 1, vI (nI 1)]) (rest := []) rfl rfl rfl (s_227t (d := d + 1) (by omega)) ?_
    refine g_setv (fun s10 es10 => ?_)
    have hSs10 : s10 801 = S := by rw [es10, mu_ne (by decide), hSs1]
    refine g_if1 (i' := 32) (P := ¬ 1 = 0) rfl rfl (g_neN (show 1 = nI 1 from (show (1 : Int32) = nI 1 from rfl)) (show 0 = nI 0 from (show (0 : Int32) = nI 0 from rfl)) (by omega) (by omega)) (fun _ => ?_) (fun h11 => absurd (by omega) h11)
    refine g_pure 2 (i' := 38) (lv' := [some (vR 800), some (vI x), some (vI y)]) (st' := [vI 0]) rfl ?_
    refine g_iret rfl ?_
    exact o3 s1 es1 h2 s10 es10

theorem m_debt {X : Nat × (Nat → Int32)} {d : Nat} {p : Nat → Nat} {sg : Mg} {B : Nat} {S : Nat → Int32} (hI : Inv B S) (hS : sg 801 = S) {x : Int32} {y : Int32} : gF X (d + 3) 242 [vR 800, vI x, vI y] p sg (oM p sg (debtR S x y)) := by
  have b0 := hI.b0; have b1 := hI.b1; have b2 := hI.b2; have b3 := hI.b3; have b4 := hI.b4; have b5 := hI.b5; have b9 := hI.b9; have b14 := hI.b14
  refine g_in (cd := k_242) (nL := 3) (rc := 13) rfl (g_A (a := 800) (kd := 0) (n := 12) rfl (by decide)) (g_c1 rfl) (b_242_0 hI hS (fun s1 f1 n2 e2 l2 n3 e3 l3 => oM_0 f1 ?_) (fun s1 f1 n2 e2 l2 h3 s4 f4 => oM_x (c := 1) f1 f4 ?_) (fun s1 f1 h2 s3 f3 => oM_x (c := 0) f1 f3 ?_))
  · subst e2 e3
    unfold debtR
    rw [if_pos ((okx_nI (by omega)).mpr (by omega)), if_pos ((okx_nI (by omega)).mpr (by omega))]
    try simp (disch := omega) only [nI_clamp]
    try exact congrArg (fun j => ((0, S j) : Nat × Int32)) (by omega)
    try (split <;> first | rfl | contradiction)
    try rfl
  · subst e2
    unfold debtR
    rw [if_pos ((okx_nI (by omega)).mpr (by omega)), if_neg (okx_nr (hi := 6) (by decide) h3)]
  · skip
    unfold debtR
    rw [if_neg h2]

def taskR (S : Nat → Int32) (x : Int32) (y : Int32) : Nat × Int32 := if okx x (sn S 5) then (if okx y (5) then ((0, S (269 + 5 * x.toNatClampNeg + y.toNatClampNeg))) else (2, 0)) else (1, 0)

theorem b_149_0 {X : Nat × (Nat → Int32)} {d : Nat} {p : Nat → Nat} {sg : Mg} {Q : am_R → Prop} {B : Nat} {S : Nat → Int32} (hI : Inv B S) (hL : cwL 250 sg S) (hD : cwD 200 sg S) {x : Int32} {y : Int32}
    (o1 : ∀ n2 : Nat, x = nI n2 → n2 < sn S 5 → ∀ n4 : Nat, y = nI n4 → n4 < 5 → (¬ n4 = 3) → (¬ n4 = 4) → Q (gRv p sg (S (269 + 5 * n2 + n4))))
    (o2 : ∀ n2 : Nat, x = nI n2 → n2 < sn S 5 → ∀ n4 : Nat, y = nI n4 → n4 < 5 → (¬ n4 = 3) → (n4 = 4) → Q (gRv p sg (S (269 + 5 * n2 + 4))))
    (o3 : ∀ n2 : Nat, x = nI n2 → n2 < sn S 5 → ∀ n4 : Nat, y = nI n4 → n4 < 5 → (n4 = 3) → Q (gRv p sg (S (269 + 5 * n2 + 3))))
    (o4 : ∀ n2 : Nat, x = nI n2 → n2 < sn S 5 → (¬ okx y 5) → Q (gRx p sg 3))
    (o5 : (¬ okx x (sn S 5)) → Q (gRx p sg 2)) :
    gW X (d + 3) k_149 0 [some (vR 0), some (vI x), some (vI y)] [] p sg Q := by
  have b0 := hI.b0; have b1 := hI.b1; have b2 := hI.b2; have b3 := hI.b3; have b4 := hI.b4; have b5 := hI.b5; have b6 := hI.b6; have b7 := hI.b7; have b8 := hI.b8; have b9 := hI.b9; have b14 := hI.b14
  refine g_pure 3 (i' := 3) (lv' := [some (vR 0), some (vI x), some (vI y)]) (st' := [vI x, vI 5, vR 0]) rfl ?_
  by_cases h1 : okx x (sn S 5)
  · obtain ⟨n2, ln2, en2⟩ := okx_of h1
    subst en2
    refine gW_eq (st' := [vI (nI n2), vI (nI 5), vR 0]) rfl (by rw [(show (5 : Int32) = nI 5 from rfl)]) rfl ?_
    refine g_cV0 rfl (args := [vR 0, vI (nI 5), vI (nI n2)]) (rest := []) rfl rfl rfl (s_140o (d := d + 1) hI hL hD (by omega) ((okx_nI (by omega)).mpr (by omega))) ?_
    refine g_pure 2 (i' := 6) (lv' := [some (vR 0), some (vI (nI n2)), some (vI y)]) (st' := [vI 5, vI y]) rfl ?_
    by_cases h3 : okx y 5
    · obtain ⟨n4, ln4, en4⟩ := okx_of h3
      subst en4
      refine gW_eq (st' := [vI (nI 5), vI (nI n4)]) rfl (by rw [(show (5 : Int32) = nI 5 from rfl)]) rfl ?_
      refine g_cS0 rfl (args := [vI (nI n4), vI (nI 5)]) (rest := []) rfl rfl rfl (s_147o (d := d + 2) (by omega) ((okx_nI (by omega)).mpr (by omega))) ?_
      refine g_pure 2 (i' := 9) (lv' := [some (vR 0), some (vI (nI n2)), some (vI (nI n4))]) (st' := [vI 3, vI (nI n4)]) rfl ?_
      refine g_if2 (i' := 17) (P := ¬ n4 = 3) rfl rfl (g_neN (show nI n4 = nI n4 from (rfl : nI n4 = nI n4)) (show 3 = nI 3 from (show (3 : Int32) = nI 3 from rfl)) (by omega) (by omega)) (fun h5 => ?_) (fun h5 => ?_)
      · refine g_pure 2 (i' := 19) (lv' := [some (vR 0), some (vI (nI n2)), some (vI (nI n4))]) (st' := [vI 4, vI (nI n4)]) rfl ?_
        refine g_if2 (i' := 27) (P := ¬ n4 = 4) rfl rfl (g_neN (show nI n4 = nI n4 from (rfl : nI n4 = nI n4)) (show 4 = nI 4 from (show (4 : Int32) = nI 4 from rfl)) (by omega) (by omega)) (fun h6 => ?_) (fun h6 => ?_)
        · refine g_pure 5 (i' := 32) (lv' := [some (vR 0), some (vI (nI n2)), some (vI (nI n4))]) (st' := [vI (nI n2), vR 207]) rfl ?_
          refine g_aald rfl (Or.inl rfl) (g_A (a := 207) (kd := 5) (n := 8) rfl (by decide)) (by decide) (show nI n2 = nI n2 from (rfl : nI n2 = nI n2)) (by omega) (gR_207 (by omega)) ?_
          refine g_pure 1 (i' := 34) (lv' := [some (vR 0), some (vI (nI n2)), some (vI (nI n4))]) (st' := [vI (nI n4), vR (242 + n2)]) rfl ?_
          refine g_ald rfl (gA_207 (by omega)) (by decide) (show nI n4 = nI n4 from (rfl : nI n4 = nI n4)) (by omega) (show _ = S (269 + 5 * n2 + n4) from (hD.tas n4 (by omega) (by omega))) ?_
          refine g_iret rfl ?_
          exact o1 n2 rfl ln2 n4 rfl ln4 h5 h6
        · have h6 := Classical.not_not.mp h6
          refine g_pure 5 (i' := 25) (lv' := [some (vR 0), some (vI (nI n2)), some (vI (nI n4))]) (st' := [vI (nI n2), vR 260]) rfl ?_
          refine g_ald rfl (g_A (a := 260) (kd := 1) (n := 8) rfl (by decide)) (by decide) (show nI n2 = nI n2 from (rfl : nI n2 = nI n2)) (by omega) (show _ = S (269 + 5 * n2 + 4) from (hL.don 1 (by decide) (by omega))) ?_
          refine g_pure 1 (i' := 35) (lv' := [some (vR 0), some (vI (nI n2)), some (vI (nI n4))]) (st' := [vI (S (269 + 5 * n2 + 4))]) rfl ?_
          refine g_iret rfl ?_
          exact o2 n2 rfl ln2 n4 rfl ln4 h5 h6
      · have h5 := Classical.not_not.mp h5
        refine g_pure 5 (i' := 15) (lv' := [some (vR 0), some (vI (nI n2)), some (vI (nI n4))]) (st' := [vI (nI n2), vR 259]) rfl ?_
        refine g_ald rfl (g_A (a := 259) (kd := 1) (n := 8) rfl (by decide)) (by decide) (show nI n2 = nI n2 from (rfl : nI n2 = nI n2)) (by omega) (show _ = S (269 + 5 * n2 + 3) from (hL.don 0 (by decide) (by omega))) ?_
        refine g_iret rfl ?_
        exact o3 n2 rfl ln2 n4 rfl ln4 h5
    · refine gW_eq (st' := [vI (nI 5), vI y]) rfl (by rw [(show (5 : Int32) = nI 5 from rfl)]) rfl ?_
      refine g_cSx rfl (args := [vI y, vI (nI 5)]) (rest := []) rfl rfl rfl (s_147x (d := d + 2) (by omega) (by assumption)) ?_
      exact o4 n2 rfl ln2 h3
  · refine gW_eq (st' := [vI x, vI (nI 5), vR 0]) rfl (by rw [(show (5 : Int32) = nI 5 from rfl)]) rfl ?_
    refine g_cVx rfl (args := [vR 0, vI (nI 5), vI x]) (rest := []) rfl rfl rfl (s_140x (d := d + 1) hI hL hD (by omega) (by assumption)) ?_
    exact o5 h1

theorem c_task {X : Nat × (Nat → Int32)} {d : Nat} {p : Nat → Nat} {sg : Mg} {B : Nat} {S : Nat → Int32} (hI : Inv B S) (hL : cwL 250 sg S) (hD : cwD 200 sg S) {x : Int32} {y : Int32} : gF X (d + 4) 149 [vR 0, vI x, vI y] p sg (oC p sg (fun c => if c = 1 then 2 else 3) (taskR S x y)) := by
  have b0 := hI.b0; have b1 := hI.b1; have b2 := hI.b2; have b3 := hI.b3; have b4 := hI.b4; have b5 := hI.b5; have b9 := hI.b9; have b14 := hI.b14
  refine g_in (cd := k_149) (nL := 3) (rc := 12) rfl (g_A (a := 0) (kd := 0) (n := 11) rfl (by decide)) (g_c1 rfl) (b_149_0 hI hL hD (fun n1 e1 l1 n2 e2 l2 h3 h4 => oC_0 ?_) (fun n1 e1 l1 n2 e2 l2 h3 h4 => oC_0 ?_) (fun n1 e1 l1 n2 e2 l2 h3 => oC_0 ?_) (fun n1 e1 l1 h2 => oC_x (c := 1) ?_ rfl) (fun h1 => oC_x (c := 0) ?_ rfl))
  · subst e1 e2
    unfold taskR
    rw [if_pos ((okx_nI (by omega)).mpr (by omega)), if_pos ((okx_nI (by omega)).mpr (by omega))]
    try simp (disch := omega) only [nI_clamp]
    try exact congrArg (fun j => ((0, S j) : Nat × Int32)) (by omega)
    try (split <;> first | rfl | contradiction)
    try rfl
  · subst e1 e2
    unfold taskR
    rw [if_pos ((okx_nI (by omega)).mpr (by omega)), if_pos ((okx_nI (by omega)).mpr (by omega))]
    try simp (disch := omega) only [nI_clamp]
    try exact congrArg (fun j => ((0, S j) : Nat × Int32)) (by omega)
    try (split <;> first | rfl | contradiction)
    try rfl
  · subst e1 e2
    unfold taskR
    rw [if_pos ((okx_nI (by omega)).mpr (by omega)), if_pos ((okx_nI (by omega)).mpr (by omega))]
    try simp (disch := omega) only [nI_clamp]
    try exact congrArg (fun j => ((0, S j) : Nat × Int32)) (by omega)
    try (split <;> first | rfl | contradiction)
    try rfl
  · subst e1
    unfold taskR
    rw [if_pos ((okx_nI (by omega)).mpr (by omega)), if_neg h2]
  · skip
    unfold taskR
    rw [if_neg h1]

theorem b_244_0 {X : Nat × (Nat → Int32)} {d : Nat} {p : Nat → Nat} {sg : Mg} {Q : am_R → Prop} {B : Nat} {S : Nat → Int32} (hI : Inv B S) (hS : sg 801 = S) {x : Int32} {y : Int32}
    (o1 : ∀ s1 : Mg, s1 = mu sg 800 0 0 → ∀ n3 : Nat, x = nI n3 → n3 < sn S 5 → ∀ n6 : Nat, y = nI n6 → 0 ≤ n6 ∧ n6 ≤ 4 → Q (gRv p s1 (S (269 + 5 * n3 + n6))))
    (o2 : ∀ s1 : Mg, s1 = mu sg 800 0 0 → ∀ n3 : Nat, x = nI n3 → n3 < sn S 5 → (¬ (¬ (y < 0) ∧ ¬ (4 < y))) → ∀ s8 : Mg, s8 = mu s1 800 0 (nI 2) → Q (gRv p s8 0))
    (o3 : ∀ s1 : Mg, s1 = mu sg 800 0 0 → (¬ okx x (sn S 5)) → ∀ s10 : Mg, s10 = mu s1 800 0 (nI 1) → Q (gRv p s10 0)) :
    gW X (d + 2) k_244 0 [some (vR 800), some (vI x), some (vI y)] [] p sg Q := by
  have b0 := hI.b0; have b1 := hI.b1; have b2 := hI.b2; have b3 := hI.b3; have b4 := hI.b4; have b5 := hI.b5; have b6 := hI.b6; have b7 := hI.b7; have b8 := hI.b8; have b9 := hI.b9; have b14 := hI.b14
  refine g_pure 2 (i' := 2) (lv' := [some (vR 800), some (vI x), some (vI y)]) (st' := [vI 0, vR 800]) rfl ?_
  refine g_putI rfl (g_A (a := 800) (kd := 0) (n := 12) rfl (by decide)) ?_
  refine g_setv (fun s1 es1 => ?_)
  have hSs1 : s1 801 = S := by rw [es1, mu_ne (by decide), hS]
  refine g_pure 6 (i' := 9) (lv' := [some (vR 800), some (vI x), some (vI y)]) (st' := [vI 5, vR 801, vI 0, vI x, vR 800]) rfl ?_
  refine g_ald rfl (g_A (a := 801) (kd := 1) (n := 2407) rfl (by decide)) (by decide) (show 5 = nI 5 from (show (5 : Int32) = nI 5 from rfl)) (by decide) (show _ = S 5 from (congrFun hSs1 5)) ?_
  refine g_pure 1 (i' := 11) (lv' := [some (vR 800), some (vI x), some (vI y)]) (st' := [vI 1, vI (S 5), vI 0, vI x, vR 800]) rfl ?_
  refine gW_eq (lv' := [some (vR 800), some (vI x), some (vI y)]) (st' := [vI 1, vI (nI (sn S 5)), vI 0, vI x, vR 800]) rfl (by rw [(show S 5 = nI (sn S 5) from (hI.c5))]) rfl ?_
  refine g_pure 1 (i' := 12) (lv' := [some (vR 800), some (vI x), some (vI y)]) (st' := [vI (nI (sn S 5) - 1), vI 0, vI x, vR 800]) rfl ?_
  refine g_cS1 rfl (args := [vI x, vI 0, vI (nI (sn S 5) - 1)]) (rest := [vR 800]) rfl rfl rfl (s_231x (d := d + 1) (by omega)) ?_
  refine g_if1 (i' := 16) (P := okx x (sn S 5)) rfl rfl g_neB (fun h2 => ?_) (fun h2 => ?_)
  · obtain ⟨n3, ln3, en3⟩ := okx_of h2
    subst en3
    refine g_pure 2 (i' := 18) (lv' := [some (vR 800), some (vI (nI n3)), some (vI y)]) (st' := [vI 1, vI 0, vR 800]) rfl ?_
    refine gW_eq (st' := [vI (nI 1), vI 0, vR 800]) rfl (by rw [(show (1 : Int32) = nI 1 from rfl)]) rfl ?_
    refine g_cV1 rfl (args := [vR 800, vI 0, vI (nI 1)]) (rest := []) rfl rfl rfl (s_227f (d := d + 1) (by omega)) ?_
    refine g_if1 (i' := 32) (P := ¬ 0 = 0) rfl rfl (g_neN (show 0 = nI 0 from (show (0 : Int32) = nI 0 from rfl)) (show 0 = nI 0 from (show (0 : Int32) = nI 0 from rfl)) (by omega) (by omega)) (fun h4 => absurd h4 (by omega)) (fun _ => ?_)
    refine g_pure 4 (i' := 24) (lv' := [some (vR 800), some (vI (nI n3)), some (vI y)]) (st' := [vI 4, vI 0, vI y, vR 800]) rfl ?_
    refine g_cS1 rfl (args := [vI y, vI 0, vI 4]) (rest := [vR 800]) rfl rfl rfl (s_231 (d := d + 1) ) ?_
    refine g_if1 (i' := 28) (P := (¬ (y < 0) ∧ ¬ (4 < y))) rfl rfl g_neB (fun h5 => ?_) (fun h5 => ?_)
    · obtain ⟨n6, ln6, en6⟩ := okr_of (lo := 0) (hi := 4) (by decide) h5
      subst en6
      refine g_pure 2 (i' := 30) (lv' := [some (vR 800), some (vI (nI n3)), some (vI (nI n6))]) (st' := [vI 2, vI 0, vR 800]) rfl ?_
      refine gW_eq (st' := [vI (nI 2), vI 0, vR 800]) rfl (by rw [(show (2 : Int32) = nI 2 from rfl)]) rfl ?_
      refine g_cV1 rfl (args := [vR 800, vI 0, vI (nI 2)]) (rest := []) rfl rfl rfl (s_227f (d := d + 1) (by omega)) ?_
      refine g_if1 (i' := 34) (P := 0 = 0) rfl rfl (g_eqN (show 0 = nI 0 from (show (0 : Int32) = nI 0 from rfl)) (show 0 = nI 0 from (show (0 : Int32) = nI 0 from rfl)) (by omega) (by omega)) (fun _ => ?_) (fun h7 => absurd (by omega) h7)
      refine g_pure 3 (i' := 37) (lv' := [some (vR 800), some (vI (nI n3)), some (vI (nI n6))]) (st' := [vI (nI n6), vI (nI n3), vR 800]) rfl ?_
      refine g_cV1 rfl (args := [vR 800, vI (nI n3), vI (nI n6)]) (rest := []) rfl rfl rfl (s_245 (d := d + 1) hSs1 (by omega) (by omega)) ?_
      refine g_iret rfl ?_
      exact o1 s1 es1 n3 rfl ln3 n6 rfl ln6
    · refine g_pure 3 (i' := 30) (lv' := [some (vR 800), some (vI (nI n3)), some (vI y)]) (st' := [vI 2, vI 1, vR 800]) rfl ?_
      refine gW_eq (st' := [vI (nI 2), vI 1, vR 800]) rfl (by rw [(show (2 : Int32) = nI 2 from rfl)]) rfl ?_
      refine g_cV1 rfl (args := [vR 800, vI 1, vI (nI 2)]) (rest := []) rfl rfl rfl (s_227t (d := d + 1) (by omega)) ?_
      refine g_setv (fun s8 es8 => ?_)
      have hSs8 : s8 801 = S := by rw [es8, mu_ne (by decide), hSs1]
      refine g_if1 (i' := 34) (P := 1 = 0) rfl rfl (g_eqN (show 1 = nI 1 from (show (1 : Int32) = nI 1 from rfl)) (show 0 = nI 0 from (show (0 : Int32) = nI 0 from rfl)) (by omega) (by omega)) (fun h9 => absurd h9 (by omega)) (fun _ => ?_)
      refine g_pure 2 (i' := 38) (lv' := [some (vR 800), some (vI (nI n3)), some (vI y)]) (st' := [vI 0]) rfl ?_
      refine g_iret rfl ?_
      exact o2 s1 es1 n3 rfl ln3 h5 s8 es8
  · refine g_pure 3 (i' := 18) (lv' := [some (vR 800), some (vI x), some (vI y)]) (st' := [vI 1, vI 1, vR 800]) rfl ?_
    refine gW_eq (st' := [vI (nI 1), vI 1, vR 800]) rfl (by rw [(show (1 : Int32) = nI 1 from rfl)]) rfl ?_
    refine g_cV1 rfl (args := [vR 800, vI 1, vI (nI 1)]) (rest := []) rfl rfl rfl (s_227t (d := d + 1) (by omega)) ?_
    refine g_setv (fun s10 es10 => ?_)
    have hSs10 : s10 801 = S := by rw [es10, mu_ne (by decide), hSs1]
    refine g_if1 (i' := 32) (P := ¬ 1 = 0) rfl rfl (g_neN (show 1 = nI 1 from (show (1 : Int32) = nI 1 from rfl)) (show 0 = nI 0 from (show (0 : Int32) = nI 0 from rfl)) (by omega) (by omega)) (fun _ => ?_) (fun h11 => absurd (by omega) h11)
    refine g_pure 2 (i' := 38) (lv' := [some (vR 800), some (vI x), some (vI y)]) (st' := [vI 0]) rfl ?_
    refine g_iret rfl ?_
    exact o3 s1 es1 h2 s10 es10

theorem m_task {X : Nat × (Nat → Int32)} {d : Nat} {p : Nat → Nat} {sg : Mg} {B : Nat} {S : Nat → Int32} (hI : Inv B S) (hS : sg 801 = S) {x : Int32} {y : Int32} : gF X (d + 3) 244 [vR 800, vI x, vI y] p sg (oM p sg (taskR S x y)) := by
  have b0 := hI.b0; have b1 := hI.b1; have b2 := hI.b2; have b3 := hI.b3; have b4 := hI.b4; have b5 := hI.b5; have b9 := hI.b9; have b14 := hI.b14
  refine g_in (cd := k_244) (nL := 3) (rc := 13) rfl (g_A (a := 800) (kd := 0) (n := 12) rfl (by decide)) (g_c1 rfl) (b_244_0 hI hS (fun s1 f1 n2 e2 l2 n3 e3 l3 => oM_0 f1 ?_) (fun s1 f1 n2 e2 l2 h3 s4 f4 => oM_x (c := 1) f1 f4 ?_) (fun s1 f1 h2 s3 f3 => oM_x (c := 0) f1 f3 ?_))
  · subst e2 e3
    unfold taskR
    rw [if_pos ((okx_nI (by omega)).mpr (by omega)), if_pos ((okx_nI (by omega)).mpr (by omega))]
    try simp (disch := omega) only [nI_clamp]
    try exact congrArg (fun j => ((0, S j) : Nat × Int32)) (by omega)
    try (split <;> first | rfl | contradiction)
    try rfl
  · subst e2
    unfold taskR
    rw [if_pos ((okx_nI (by omega)).mpr (by omega)), if_neg (okx_nr (hi := 4) (by decide) h3)]
  · skip
    unfold taskR
    rw [if_neg h2]

def factR (S : Nat → Int32) (x : Int32) (P : Prop) [Decidable P] : Nat × Int32 := if okx x (sn S 2) then ((0, S (161 + 2 * x.toNatClampNeg + (if P then 1 else 0)))) else (1, 0)

theorem b_150_0 {X : Nat × (Nat → Int32)} {d : Nat} {p : Nat → Nat} {sg : Mg} {Q : am_R → Prop} {B : Nat} {S : Nat → Int32} (hI : Inv B S) (hL : cwL 250 sg S) (hD : cwD 200 sg S) {x : Int32} {P : Prop} [Decidable P]
    (o1 : ∀ n2 : Nat, x = nI n2 → n2 < sn S 2 → (¬ P) → Q (gRv p sg (S (161 + 2 * n2))))
    (o2 : ∀ n2 : Nat, x = nI n2 → n2 < sn S 2 → (P) → Q (gRv p sg (S (161 + 2 * n2 + 1))))
    (o3 : (¬ okx x (sn S 2)) → Q (gRx p sg 2)) :
    gW X (d + 3) k_150 0 [some (vR 0), some (vI x), some (vI (if P then 1 else 0))] [] p sg Q := by
  have b0 := hI.b0; have b1 := hI.b1; have b2 := hI.b2; have b3 := hI.b3; have b4 := hI.b4; have b5 := hI.b5; have b6 := hI.b6; have b7 := hI.b7; have b8 := hI.b8; have b9 := hI.b9; have b14 := hI.b14
  refine g_pure 3 (i' := 3) (lv' := [some (vR 0), some (vI x), some (vI (if P then 1 else 0))]) (st' := [vI x, vI 2, vR 0]) rfl ?_
  by_cases h1 : okx x (sn S 2)
  · obtain ⟨n2, ln2, en2⟩ := okx_of h1
    subst en2
    refine gW_eq (st' := [vI (nI n2), vI (nI 2), vR 0]) rfl (by rw [(show (2 : Int32) = nI 2 from rfl)]) rfl ?_
    refine g_cV0 rfl (args := [vR 0, vI (nI 2), vI (nI n2)]) (rest := []) rfl rfl rfl (s_140o (d := d + 1) hI hL hD (by omega) ((okx_nI (by omega)).mpr (by omega))) ?_
    refine g_pure 5 (i' := 9) (lv' := [some (vR 0), some (vI (nI n2)), some (vI (if P then 1 else 0))]) (st' := [vI (nI n2), vR 204]) rfl ?_
    refine g_aald rfl (Or.inl rfl) (g_A (a := 204) (kd := 5) (n := 8) rfl (by decide)) (by decide) (show nI n2 = nI n2 from (rfl : nI n2 = nI n2)) (by omega) (gR_204 (by omega)) ?_
    refine g_pure 1 (i' := 11) (lv' := [some (vR 0), some (vI (nI n2)), some (vI (if P then 1 else 0))]) (st' := [vI (if P then 1 else 0), vR (214 + n2)]) rfl ?_
    refine g_if1 (i' := 14) (P := ¬ P) rfl rfl g_eqB (fun h3 => ?_) (fun h3 => ?_)
    · refine g_pure 1 (i' := 15) (lv' := [some (vR 0), some (vI (nI n2)), some (vI (if P then 1 else 0))]) (st' := [vI 0, vR (214 + n2)]) rfl ?_
      refine g_ald rfl (gA_204 (by omega)) (by decide) (show 0 = nI 0 from (show (0 : Int32) = nI 0 from rfl)) (by decide) (show _ = S (161 + 2 * n2) from (hD.fac 0 (by omega) (by decide))) ?_
      refine g_iret rfl ?_
      exact o1 n2 rfl ln2 h3
    · have h3 := Classical.not_not.mp h3
      refine g_pure 2 (i' := 15) (lv' := [some (vR 0), some (vI (nI n2)), some (vI (if P then 1 else 0))]) (st' := [vI 1, vR (214 + n2)]) rfl ?_
      refine g_ald rfl (gA_204 (by omega)) (by decide) (show 1 = nI 1 from (show (1 : Int32) = nI 1 from rfl)) (by decide) (show _ = S (161 + 2 * n2 + 1) from (hD.fac 1 (by omega) (by decide))) ?_
      refine g_iret rfl ?_
      exact o2 n2 rfl ln2 h3
  · refine gW_eq (st' := [vI x, vI (nI 2), vR 0]) rfl (by rw [(show (2 : Int32) = nI 2 from rfl)]) rfl ?_
    refine g_cVx rfl (args := [vR 0, vI (nI 2), vI x]) (rest := []) rfl rfl rfl (s_140x (d := d + 1) hI hL hD (by omega) (by assumption)) ?_
    exact o3 h1

theorem c_fact {X : Nat × (Nat → Int32)} {d : Nat} {p : Nat → Nat} {sg : Mg} {B : Nat} {S : Nat → Int32} (hI : Inv B S) (hL : cwL 250 sg S) (hD : cwD 200 sg S) {x : Int32} {P : Prop} [Decidable P] : gF X (d + 4) 150 [vR 0, vI x, vI (if P then 1 else 0)] p sg (oC p sg (fun _ => 2) (factR S x P)) := by
  have b0 := hI.b0; have b1 := hI.b1; have b2 := hI.b2; have b3 := hI.b3; have b4 := hI.b4; have b5 := hI.b5; have b9 := hI.b9; have b14 := hI.b14
  refine g_in (cd := k_150) (nL := 3) (rc := 12) rfl (g_A (a := 0) (kd := 0) (n := 11) rfl (by decide)) (g_c1 rfl) (b_150_0 hI hL hD (fun n1 e1 l1 h2 => oC_0 ?_) (fun n1 e1 l1 h2 => oC_0 ?_) (fun h1 => oC_x (c := 0) ?_ rfl))
  · subst e1
    unfold factR
    rw [if_pos ((okx_nI (by omega)).mpr (by omega))]
    try simp (disch := omega) only [nI_clamp]
    try exact congrArg (fun j => ((0, S j) : Nat × Int32)) (by omega)
    try (split <;> first | rfl | contradiction)
    try rfl
  · subst e1
    unfold factR
    rw [if_pos ((okx_nI (by omega)).mpr (by omega))]
    try simp (disch := omega) only [nI_clamp]
    try exact congrArg (fun j => ((0, S j) : Nat × Int32)) (by omega)
    try (split <;> first | rfl | contradiction)
    try rfl
  · skip
    unfold factR
    rw [if_neg h1]

theorem b_246_0 {X : Nat × (Nat → Int32)} {d : Nat} {p : Nat → Nat} {sg : Mg} {Q : am_R → Prop} {B : Nat} {S : Nat → Int32} (hI : Inv B S) (hS : sg 801 = S) {x : Int32} {P : Prop} [Decidable P]
    (o1 : ∀ s1 : Mg, s1 = mu sg 800 0 0 → ∀ n3 : Nat, x = nI n3 → n3 < sn S 2 → (¬ P) → Q (gRv p s1 (S (161 + 2 * n3))))
    (o2 : ∀ s1 : Mg, s1 = mu sg 800 0 0 → ∀ n3 : Nat, x = nI n3 → n3 < sn S 2 → (P) → Q (gRv p s1 (S (161 + 2 * n3 + 1))))
    (o3 : ∀ s1 : Mg, s1 = mu sg 800 0 0 → (¬ okx x (sn S 2)) → ∀ s6 : Mg, s6 = mu s1 800 0 (nI 1) → Q (gRv p s6 0)) :
    gW X (d + 2) k_246 0 [some (vR 800), some (vI x), some (vI (if P then 1 else 0))] [] p sg Q := by
  have b0 := hI.b0; have b1 := hI.b1; have b2 := hI.b2; have b3 := hI.b3; have b4 := hI.b4; have b5 := hI.b5; have b6 := hI.b6; have b7 := hI.b7; have b8 := hI.b8; have b9 := hI.b9; have b14 := hI.b14
  refine g_pure 2 (i' := 2) (lv' := [some (vR 800), some (vI x), some (vI (if P then 1 else 0))]) (st' := [vI 0, vR 800]) rfl ?_
  refine g_putI rfl (g_A (a := 800) (kd := 0) (n := 12) rfl (by decide)) ?_
  refine g_setv (fun s1 es1 => ?_)
  have hSs1 : s1 801 = S := by rw [es1, mu_ne (by decide), hS]
  refine g_pure 4 (i' := 7) (lv' := [some (vR 800), some (vI x), some (vI (if P then 1 else 0))]) (st' := [vR 800, vI 0, vI x, vR 800]) rfl ?_
  refine g_cV1 rfl (args := [vR 800]) (rest := [vI 0, vI x, vR 800]) rfl rfl rfl (s_207 (d := d + 1) hSs1) ?_
  refine g_pure 1 (i' := 9) (lv' := [some (vR 800), some (vI x), some (vI (if P then 1 else 0))]) (st' := [vI 1, vI (S 2), vI 0, vI x, vR 800]) rfl ?_
  refine gW_eq (lv' := [some (vR 800), some (vI x), some (vI (if P then 1 else 0))]) (st' := [vI 1, vI (nI (sn S 2)), vI 0, vI x, vR 800]) rfl (by rw [(show S 2 = nI (sn S 2) from (hI.c2))]) rfl ?_
  refine g_pure 1 (i' := 10) (lv' := [some (vR 800), some (vI x), some (vI (if P then 1 else 0))]) (st' := [vI (nI (sn S 2) - 1), vI 0, vI x, vR 800]) rfl ?_
  refine g_cS1 rfl (args := [vI x, vI 0, vI (nI (sn S 2) - 1)]) (rest := [vR 800]) rfl rfl rfl (s_231x (d := d + 1) (by omega)) ?_
  refine g_if1 (i' := 14) (P := okx x (sn S 2)) rfl rfl g_neB (fun h2 => ?_) (fun h2 => ?_)
  · obtain ⟨n3, ln3, en3⟩ := okx_of h2
    subst en3
    refine g_pure 2 (i' := 16) (lv' := [some (vR 800), some (vI (nI n3)), some (vI (if P then 1 else 0))]) (st' := [vI 1, vI 0, vR 800]) rfl ?_
    refine gW_eq (st' := [vI (nI 1), vI 0, vR 800]) rfl (by rw [(show (1 : Int32) = nI 1 from rfl)]) rfl ?_
    refine g_cV1 rfl (args := [vR 800, vI 0, vI (nI 1)]) (rest := []) rfl rfl rfl (s_227f (d := d + 1) (by omega)) ?_
    refine g_if1 (i' := 20) (P := 0 = 0) rfl rfl (g_eqN (show 0 = nI 0 from (show (0 : Int32) = nI 0 from rfl)) (show 0 = nI 0 from (show (0 : Int32) = nI 0 from rfl)) (by omega) (by omega)) (fun _ => ?_) (fun h4 => absurd (by omega) h4)
    refine g_pure 8 (i' := 28) (lv' := [some (vR 800), some (vI (nI n3)), some (vI (if P then 1 else 0))]) (st' := [vI (if P then 1 else 0), vI (161 + (2 * nI n3)), vR 801]) rfl ?_
    refine gW_eq (lv' := [some (vR 800), some (vI (nI n3)), some (vI (if P then 1 else 0))]) (st' := [vI (if P then 1 else 0), vI (nI (161 + 2 * n3)), vR 801]) rfl (by rw [(show (161 + (2 * nI n3)) = nI (161 + 2 * n3) from ((g_add (show (161 : Int32) = nI 161 from rfl) (g_mul (show (2 : Int32) = nI 2 from rfl) (rfl : nI n3 = nI n3)))).trans (congrArg nI (by omega)))]) rfl ?_
    refine g_if1 (i' := 31) (P := ¬ P) rfl rfl g_eqB (fun h5 => ?_) (fun h5 => ?_)
    · refine g_pure 2 (i' := 33) (lv' := [some (vR 800), some (vI (nI n3)), some (vI (if P then 1 else 0))]) (st' := [vI (nI (161 + 2 * n3) + 0), vR 801]) rfl ?_
      refine gW_eq (lv' := [some (vR 800), some (vI (nI n3)), some (vI (if P then 1 else 0))]) (st' := [vI (nI (161 + 2 * n3)), vR 801]) rfl (by rw [(show (nI (161 + 2 * n3) + 0) = nI (161 + 2 * n3) from ((g_add (rfl : nI (161 + 2 * n3) = nI (161 + 2 * n3)) (show (0 : Int32) = nI 0 from rfl))).trans (congrArg nI (by omega)))]) rfl ?_
      refine g_ald rfl (g_A (a := 801) (kd := 1) (n := 2407) rfl (by decide)) (by decide) (show nI (161 + 2 * n3) = nI (161 + 2 * n3) from (rfl : nI (161 + 2 * n3) = nI (161 + 2 * n3))) (by omega) (show _ = S (161 + 2 * n3) from (congrFun hSs1 (161 + 2 * n3))) ?_
      refine g_iret rfl ?_
      exact o1 s1 es1 n3 rfl ln3 h5
    · have h5 := Classical.not_not.mp h5
      refine g_pure 3 (i' := 33) (lv' := [some (vR 800), some (vI (nI n3)), some (vI (if P then 1 else 0))]) (st' := [vI (nI (161 + 2 * n3) + 1), vR 801]) rfl ?_
      refine gW_eq (lv' := [some (vR 800), some (vI (nI n3)), some (vI (if P then 1 else 0))]) (st' := [vI (nI (161 + 2 * n3 + 1)), vR 801]) rfl (by rw [(show (nI (161 + 2 * n3) + 1) = nI (161 + 2 * n3 + 1) from ((g_add (rfl : nI (161 + 2 * n3) = nI (161 + 2 * n3)) (show (1 : Int32) = nI 1 from rfl))).trans (congrArg nI (by omega)))]) rfl ?_
      refine g_ald rfl (g_A (a := 801) (kd := 1) (n := 2407) rfl (by decide)) (by decide) (show nI (161 + 2 * n3 + 1) = nI (161 + 2 * n3 + 1) from (rfl : nI (161 + 2 * n3 + 1) = nI (161 + 2 * n3 + 1))) (by omega) (show _ = S (161 + 2 * n3 + 1) from (congrFun hSs1 (161 + 2 * n3 + 1))) ?_
      refine g_iret rfl ?_
      exact o2 s1 es1 n3 rfl ln3 h5
  · refine g_pure 3 (i' := 16) (lv' := [some (vR 800), some (vI x), some (vI (if P then 1 else 0))]) (st' := [vI 1, vI 1, vR 800]) rfl ?_
    refine gW_eq (st' := [vI (nI 1), vI 1, vR 800]) rfl (by rw [(show (1 : Int32) = nI 1 from rfl)]) rfl ?_
    refine g_cV1 rfl (args := [vR 800, vI 1, vI (nI 1)]) (rest := []) rfl rfl rfl (s_227t (d := d + 1) (by omega)) ?_
    refine g_setv (fun s6 es6 => ?_)
    have hSs6 : s6 801 = S := by rw [es6, mu_ne (by decide), hSs1]
    refine g_if1 (i' := 20) (P := 1 = 0) rfl rfl (g_eqN (show 1 = nI 1 from (show (1 : Int32) = nI 1 from rfl)) (show 0 = nI 0 from (show (0 : Int32) = nI 0 from rfl)) (by omega) (by omega)) (fun h7 => absurd h7 (by omega)) (fun _ => ?_)
    refine g_pure 2 (i' := 34) (lv' := [some (vR 800), some (vI x), some (vI (if P then 1 else 0))]) (st' := [vI 0]) rfl ?_
    refine g_iret rfl ?_
    exact o3 s1 es1 h2 s6 es6

theorem m_fact {X : Nat × (Nat → Int32)} {d : Nat} {p : Nat → Nat} {sg : Mg} {B : Nat} {S : Nat → Int32} (hI : Inv B S) (hS : sg 801 = S) {x : Int32} {P : Prop} [Decidable P] : gF X (d + 3) 246 [vR 800, vI x, vI (if P then 1 else 0)] p sg (oM p sg (factR S x P)) := by
  have b0 := hI.b0; have b1 := hI.b1; have b2 := hI.b2; have b3 := hI.b3; have b4 := hI.b4; have b5 := hI.b5; have b9 := hI.b9; have b14 := hI.b14
  refine g_in (cd := k_246) (nL := 3) (rc := 13) rfl (g_A (a := 800) (kd := 0) (n := 12) rfl (by decide)) (g_c1 rfl) (b_246_0 hI hS (fun s1 f1 n2 e2 l2 h3 => oM_0 f1 ?_) (fun s1 f1 n2 e2 l2 h3 => oM_0 f1 ?_) (fun s1 f1 h2 s3 f3 => oM_x (c := 0) f1 f3 ?_))
  · subst e2
    unfold factR
    rw [if_pos ((okx_nI (by omega)).mpr (by omega))]
    try simp (disch := omega) only [nI_clamp]
    try exact congrArg (fun j => ((0, S j) : Nat × Int32)) (by omega)
    try (split <;> first | rfl | contradiction)
    try rfl
  · subst e2
    unfold factR
    rw [if_pos ((okx_nI (by omega)).mpr (by omega))]
    try simp (disch := omega) only [nI_clamp]
    try exact congrArg (fun j => ((0, S j) : Nat × Int32)) (by omega)
    try (split <;> first | rfl | contradiction)
    try rfl
  · skip
    unfold factR
    rw [if_neg h2]
