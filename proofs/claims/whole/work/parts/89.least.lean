/-! WARNED, LEAST: the calls (made by wip/whole/gen89.py) -/
theorem b_94_0 {X : Nat × (Nat → Int32)} {d : Nat} {p : Nat → Nat} {sg : Mg} {Q : am_R → Prop} {B : Nat} {S : Nat → Int32} (hI : Inv B S) (hL : cwL 250 sg S) (hD : cwD 200 sg S) (hW : LW S sg) {k : Nat} {n : Nat} (u_k : k ≤ 7) (u_n : n ≤ 200) (q1 : k < sn S 1)
    (o1 : ∀ s1 : Mg, ((∀ c, c ≠ 8 → c ≠ 9 → s1 c = sg c) ∧ bOK S s1) → ∀ s2 : Mg, (WY s1 s2 ∧ bOK S s2 ∧ s2 13 = s1 13) → Q (gRv p s2 (nI (bset (wnP S k (sn S 8 + n)) (sn S 1))))) :
    gW X (d + 8) k_94 0 [some (vR 8), some (vI (nI k)), some (vI (nI n))] [] p sg Q := by
  have b0 := hI.b0; have b1 := hI.b1; have b2 := hI.b2; have b3 := hI.b3; have b4 := hI.b4; have b5 := hI.b5; have b6 := hI.b6; have b7 := hI.b7; have b8 := hI.b8; have b9 := hI.b9; have b14 := hI.b14
  refine g_pure 1 (i' := 1) (lv' := [some (vR 8), some (vI (nI k)), some (vI (nI n))]) (st' := [vR 8]) rfl ?_
  refine g_cV0E rfl (args := [vR 8]) (rest := []) rfl rfl rfl (s_82 (d := d + 6) hW) (fun s1 es1 => ?_)
  have hLs1 : cwL 250 s1 S := (hL).eqc (fun c h1 h2 => es1.1 c (by omega) (by omega))
  have hDs1 : cwD 200 s1 S := (hD).eqc (fun c h1 => es1.1 c (by omega) (by omega))
  have hWs1 : LW S s1 := (hW).eqc (fun c h1 h2 => es1.1 c (by omega) (by omega))
  refine g_pure 4 (i' := 6) (lv' := [some (vR 8), some (vI (nI k)), some (vI (nI n))]) (st' := [vR 250, vI (nI k), vR 8]) rfl ?_
  refine g_getI rfl (g_A (a := 250) (kd := 0) (n := 6) rfl (by decide)) (show _ = S 8 from hLs1.f12) ?_
  refine g_pure 2 (i' := 9) (lv' := [some (vR 8), some (vI (nI k)), some (vI (nI n))]) (st' := [vI (S 8 + nI n), vI (nI k), vR 8]) rfl ?_
  refine gW_eq (lv' := [some (vR 8), some (vI (nI k)), some (vI (nI n))]) (st' := [vI (nI (sn S 8 + n)), vI (nI k), vR 8]) rfl (by rw [(show (S 8 + nI n) = nI (sn S 8 + n) from ((g_add (hI.c8) (rfl : nI n = nI n))).trans (congrArg nI (by omega)))]) rfl ?_
  refine g_cV1E rfl (args := [vR 8, vI (nI k), vI (nI (sn S 8 + n))]) (rest := []) rfl rfl rfl (s_95 (d := d) hI hLs1 hDs1 hWs1 es1.2 (by omega) (by omega)) (fun s2 es2 => ?_)
  have hLs2 : cwL 250 s2 S := es2.1.L hLs1
  have hDs2 : cwD 200 s2 S := es2.1.D hDs1
  have hWs2 : LW S s2 := es2.1.W hWs1
  refine g_iret rfl ?_
  exact o1 s1 es1 s2 es2

theorem b_164_0 {X : Nat × (Nat → Int32)} {d : Nat} {p : Nat → Nat} {sg : Mg} {Q : am_R → Prop} {B : Nat} {S : Nat → Int32} (hI : Inv B S) (hL : cwL 250 sg S) (hD : cwD 200 sg S) {x : Int32} {y : Int32}
    (o1 : ∀ n2 : Nat, x = nI n2 → n2 < sn S 1 → ∀ n4 : Nat, y = nI n4 → 0 ≤ n4 ∧ n4 ≤ 200 → gW X (d + 9) k_164 8 [some (vR 0), some (vI (nI n2)), some (vI (nI n4))] [] p sg Q)
    (o2 : ∀ n2 : Nat, x = nI n2 → n2 < sn S 1 → (¬ (¬ (y < 0) ∧ ¬ (200 < y))) → Q (gRx p sg 0))
    (o3 : (¬ okx x (sn S 1)) → Q (gRx p sg 2)) :
    gW X (d + 9) k_164 0 [some (vR 0), some (vI x), some (vI y)] [] p sg Q := by
  have b0 := hI.b0; have b1 := hI.b1; have b2 := hI.b2; have b3 := hI.b3; have b4 := hI.b4; have b5 := hI.b5; have b6 := hI.b6; have b7 := hI.b7; have b8 := hI.b8; have b9 := hI.b9; have b14 := hI.b14
  refine g_pure 3 (i' := 3) (lv' := [some (vR 0), some (vI x), some (vI y)]) (st' := [vI x, vI 1, vR 0]) rfl ?_
  by_cases h1 : okx x (sn S 1)
  · obtain ⟨n2, ln2, en2⟩ := okx_of h1
    subst en2
    refine gW_eq (st' := [vI (nI n2), vI (nI 1), vR 0]) rfl (by rw [(show (1 : Int32) = nI 1 from rfl)]) rfl ?_
    refine g_cV0 rfl (args := [vR 0, vI (nI 1), vI (nI n2)]) (rest := []) rfl rfl rfl (s_140o (d := d + 7) hI hL hD (by omega) ((okx_nI (by omega)).mpr (by omega))) ?_
    refine g_pure 3 (i' := 7) (lv' := [some (vR 0), some (vI (nI n2)), some (vI y)]) (st' := [vI 200, vI 0, vI y]) rfl ?_
    by_cases h3 : (¬ (y < 0) ∧ ¬ (200 < y))
    · obtain ⟨n4, ln4, en4⟩ := okr_of (lo := 0) (hi := 200) (by decide) h3
      subst en4
      refine g_cS0 rfl (args := [vI (nI n4), vI 0, vI 200]) (rest := []) rfl rfl rfl (s_141o (d := d + 8) (nI_nlt (b := 0) (by omega) (by omega)) (nI_nlt (a := 200) (by omega) (by omega))) ?_
      exact o1 n2 rfl ln2 n4 rfl ln4
    · refine g_cSx rfl (args := [vI y, vI 0, vI 200]) (rest := []) rfl rfl rfl (s_141x (d := d + 8) (by assumption)) ?_
      exact o2 n2 rfl ln2 h3
  · refine gW_eq (st' := [vI x, vI (nI 1), vR 0]) rfl (by rw [(show (1 : Int32) = nI 1 from rfl)]) rfl ?_
    refine g_cVx rfl (args := [vR 0, vI (nI 1), vI x]) (rest := []) rfl rfl rfl (s_140x (d := d + 7) hI hL hD (by omega) (by assumption)) ?_
    exact o3 h1

theorem b_284_0 {X : Nat × (Nat → Int32)} {d : Nat} {p : Nat → Nat} {sg : Mg} {Q : am_R → Prop} {B : Nat} {S : Nat → Int32} (hI : Inv B S) (hS : sg 801 = S) {x : Int32} {y : Int32}
    (o1 : ∀ s1 : Mg, s1 = mu sg 800 0 0 → (¬ okx x (sn S 1)) → ∀ s3 : Mg, s3 = mu s1 800 0 (nI 1) → Q (gRv p s3 0))
    (o2 : ∀ s1 : Mg, s1 = mu sg 800 0 0 → ∀ n5 : Nat, x = nI n5 → n5 < sn S 1 → ∀ n8 : Nat, y = nI n8 → 0 ≤ n8 ∧ n8 ≤ 200 → gW X (d + 11) k_284 24 [some (vR 800), some (vI (nI n5)), some (vI (nI n8))] [] p s1 Q)
    (o3 : ∀ s1 : Mg, s1 = mu sg 800 0 0 → ∀ n5 : Nat, x = nI n5 → n5 < sn S 1 → (¬ (¬ (y < 0) ∧ ¬ (200 < y))) → ∀ s10 : Mg, s10 = mu s1 800 0 (nI 2) → Q (gRv p s10 0)) :
    gW X (d + 11) k_284 0 [some (vR 800), some (vI x), some (vI y)] [] p sg Q := by
  have b0 := hI.b0; have b1 := hI.b1; have b2 := hI.b2; have b3 := hI.b3; have b4 := hI.b4; have b5 := hI.b5; have b6 := hI.b6; have b7 := hI.b7; have b8 := hI.b8; have b9 := hI.b9; have b14 := hI.b14
  refine g_pure 2 (i' := 2) (lv' := [some (vR 800), some (vI x), some (vI y)]) (st' := [vI 0, vR 800]) rfl ?_
  refine g_putI rfl (g_A (a := 800) (kd := 0) (n := 12) rfl (by decide)) ?_
  refine g_setv (fun s1 es1 => ?_)
  have hSs1 : s1 801 = S := by rw [es1, mu_ne (by decide), hS]
  refine g_pure 3 (i' := 6) (lv' := [some (vR 800), some (vI x), some (vI y)]) (st' := [vI x, vR 800, vR 800]) rfl ?_
  refine g_cV1 rfl (args := [vR 800, vI x]) (rest := [vR 800]) rfl rfl rfl (s_237 (d := d + 9) hI hSs1) ?_
  refine g_pure 1 (i' := 8) (lv' := [some (vR 800), some (vI x), some (vI y)]) (st' := [vI 1, vI (if ¬ okx x (sn S 1) then 1 else 0), vR 800]) rfl ?_
  by_cases h2 : ¬ okx x (sn S 1)
  · refine gW_eq (st' := [vI 1, vI 1, vR 800]) rfl (by rw [if_pos h2]) rfl ?_
    refine gW_eq (st' := [vI (nI 1), vI 1, vR 800]) rfl (by rw [(show (1 : Int32) = nI 1 from rfl)]) rfl ?_
    refine g_cV1 rfl (args := [vR 800, vI 1, vI (nI 1)]) (rest := []) rfl rfl rfl (s_227t (d := d + 10) (by omega)) ?_
    refine g_setv (fun s3 es3 => ?_)
    have hSs3 : s3 801 = S := by rw [es3, mu_ne (by decide), hSs1]
    refine g_if1 (i' := 22) (P := ¬ 1 = 0) rfl rfl (g_neN (show 1 = nI 1 from (show (1 : Int32) = nI 1 from rfl)) (show 0 = nI 0 from (show (0 : Int32) = nI 0 from rfl)) (by omega) (by omega)) (fun _ => ?_) (fun h4 => absurd (by omega) h4)
    refine g_pure 1 (i' := 23) (lv' := [some (vR 800), some (vI x), some (vI y)]) (st' := [vI 0]) rfl ?_
    refine g_iret rfl ?_
    exact o1 s1 es1 h2 s3 es3
  · have h2 := Classical.not_not.mp h2
    refine gW_eq (st' := [vI 1, vI 0, vR 800]) rfl (by rw [if_neg (fun n9 => n9 h2)]) rfl ?_
    obtain ⟨n5, ln5, en5⟩ := okx_of h2
    subst en5
    refine gW_eq (st' := [vI (nI 1), vI 0, vR 800]) rfl (by rw [(show (1 : Int32) = nI 1 from rfl)]) rfl ?_
    refine g_cV1 rfl (args := [vR 800, vI 0, vI (nI 1)]) (rest := []) rfl rfl rfl (s_227f (d := d + 10) (by omega)) ?_
    refine g_if1 (i' := 22) (P := ¬ 0 = 0) rfl rfl (g_neN (show 0 = nI 0 from (show (0 : Int32) = nI 0 from rfl)) (show 0 = nI 0 from (show (0 : Int32) = nI 0 from rfl)) (by omega) (by omega)) (fun h6 => absurd h6 (by omega)) (fun _ => ?_)
    refine g_pure 4 (i' := 14) (lv' := [some (vR 800), some (vI (nI n5)), some (vI y)]) (st' := [vI 200, vI 0, vI y, vR 800]) rfl ?_
    refine g_cS1 rfl (args := [vI y, vI 0, vI 200]) (rest := [vR 800]) rfl rfl rfl (s_231 (d := d + 10) ) ?_
    refine g_if1 (i' := 18) (P := (¬ (y < 0) ∧ ¬ (200 < y))) rfl rfl g_neB (fun h7 => ?_) (fun h7 => ?_)
    · obtain ⟨n8, ln8, en8⟩ := okr_of (lo := 0) (hi := 200) (by decide) h7
      subst en8
      refine g_pure 2 (i' := 20) (lv' := [some (vR 800), some (vI (nI n5)), some (vI (nI n8))]) (st' := [vI 2, vI 0, vR 800]) rfl ?_
      refine gW_eq (st' := [vI (nI 2), vI 0, vR 800]) rfl (by rw [(show (2 : Int32) = nI 2 from rfl)]) rfl ?_
      refine g_cV1 rfl (args := [vR 800, vI 0, vI (nI 2)]) (rest := []) rfl rfl rfl (s_227f (d := d + 10) (by omega)) ?_
      refine g_if1 (i' := 24) (P := 0 = 0) rfl rfl (g_eqN (show 0 = nI 0 from (show (0 : Int32) = nI 0 from rfl)) (show 0 = nI 0 from (show (0 : Int32) = nI 0 from rfl)) (by omega) (by omega)) (fun _ => ?_) (fun h9 => absurd (by omega) h9)
      exact o2 s1 es1 n5 rfl ln5 n8 rfl ln8
    · refine g_pure 3 (i' := 20) (lv' := [some (vR 800), some (vI (nI n5)), some (vI y)]) (st' := [vI 2, vI 1, vR 800]) rfl ?_
      refine gW_eq (st' := [vI (nI 2), vI 1, vR 800]) rfl (by rw [(show (2 : Int32) = nI 2 from rfl)]) rfl ?_
      refine g_cV1 rfl (args := [vR 800, vI 1, vI (nI 2)]) (rest := []) rfl rfl rfl (s_227t (d := d + 10) (by omega)) ?_
      refine g_setv (fun s10 es10 => ?_)
      have hSs10 : s10 801 = S := by rw [es10, mu_ne (by decide), hSs1]
      refine g_if1 (i' := 24) (P := 1 = 0) rfl rfl (g_eqN (show 1 = nI 1 from (show (1 : Int32) = nI 1 from rfl)) (show 0 = nI 0 from (show (0 : Int32) = nI 0 from rfl)) (by omega) (by omega)) (fun h11 => absurd h11 (by omega)) (fun _ => ?_)
      refine g_pure 1 (i' := 23) (lv' := [some (vR 800), some (vI (nI n5)), some (vI y)]) (st' := [vI 0]) rfl ?_
      refine g_iret rfl ?_
      exact o3 s1 es1 n5 rfl ln5 h7 s10 es10

noncomputable def warnedR (S : Nat → Int32) (x y : Int32) : Nat × Int32 := if okx x (sn S 1) then (if okr y 0 200 then (0, nI (bset (wnP S x.toNatClampNeg (sn S 8 + y.toNatClampNeg)) (sn S 1))) else (2, 0)) else (1, 0)
theorem s_94 {X : Nat × (Nat → Int32)} {d : Nat} {p : Nat → Nat} {sg : Mg} {B : Nat} {S : Nat → Int32} (hI : Inv B S) (hL : cwL 250 sg S) (hD : cwD 200 sg S) (hW : LW S sg) {k n : Nat} (hk : k < sn S 1) (hn : n ≤ 200) : gF X (d + 9) 94 [vR 8, vI (nI k), vI (nI n)] p sg (fun r => ∃ s, WY sg s ∧ r = gRv p s (nI (bset (wnP S k (sn S 8 + n)) (sn S 1)))) := by
  have b1 := hI.b1; have b8 := hI.b8
  exact g_in (cd := k_94) (nL := 3) (rc := 10) rfl (g_A (a := 8) (kd := 0) (n := 9) rfl (by decide)) (g_c1 rfl) (b_94_0 hI hL hD hW (by omega) hn hk (fun s1 h1 s2 h2 => ⟨s2, (WY.bg h1).tr h2.1, rfl⟩))
theorem c_warned {X : Nat × (Nat → Int32)} {d : Nat} {p : Nat → Nat} {sg : Mg} {B : Nat} {A : AS} (hI : RI B A) (hR : RC A p sg) {x y : Int32} : gF X (d + 10) 164 [vR 0, vI x, vI y] p sg (cR A A (fun c => if c = 1 then 2 else 0) (warnedR A.S x y) sg) := by
  have b1 := hI.1.b1
  refine g_in (cd := k_164) (nL := 3) (rc := 12) rfl (g_A (a := 0) (kd := 0) (n := 11) rfl (by decide)) (g_c1 rfl) (b_164_0 hI.1 hR.2.1.1 hR.2.1.2.1 (fun k ek hk n en hn => ?_) (fun k ek hk h => ?_) (fun h => ?_))
  · subst ek en
    refine g_pure 4 (i' := 12) (lv' := [some (vR 0), some (vI (nI k)), some (vI (nI n))]) (st' := [vI (nI n), vI (nI k), vR 8]) rfl ?_
    refine g_cV1E rfl (args := [vR 8, vI (nI k), vI (nI n)]) (rest := []) rfl rfl rfl (s_94 (d := d) hI.1 hR.2.1.1 hR.2.1.2.1 (hR.W hI) hk hn.2) (fun s h9 => ?_)
    refine g_iret rfl (cR_v (hR.wy hI h9) (fun c hc => h9 c (by omega) (by omega) (by omega) (by omega)) ?_)
    unfold warnedR
    rw [if_pos ((okx_nI (by omega)).mpr (by omega)), if_pos ((okr_nI (by omega) (by omega) (by omega)).mpr hn), nI_clamp (by omega), nI_clamp (by omega)]
  · subst ek
    refine cR_x hR (fun _ _ => rfl) (c := 1) ?_ rfl
    unfold warnedR
    rw [if_pos ((okx_nI (by omega)).mpr (by omega)), if_neg (show ¬ okr y 0 200 from h)]
  · refine cR_x hR (fun _ _ => rfl) (c := 0) ?_ rfl
    unfold warnedR
    rw [if_neg h]
theorem m_warned {X : Nat × (Nat → Int32)} {d : Nat} {p : Nat → Nat} {sg : Mg} {B : Nat} {A : AS} (hI : RI B A) (hR : RM A sg) {x y : Int32} : gF X (d + 12) 284 [vR 800, vI x, vI y] p sg (mR A A (warnedR A.S x y) p sg) := by
  have b1 := hI.1.b1
  refine g_in (cd := k_284) (nL := 3) (rc := 13) rfl (g_A (a := 800) (kd := 0) (n := 12) rfl (by decide)) (g_c1 rfl) (b_284_0 hI.1 hR.1 (fun s1 f1 h s3 f3 => ?_) (fun s1 f1 k ek hk n en hn => ?_) (fun s1 f1 k ek hk h s3 f3 => ?_))
  · refine mR_x ((hR.th f1).th f3) (fun c hc => by rw [f3, f1, up_hi hc, up_hi hc]) (c := 0) (by rw [f3, mu_self]) ?_
    unfold warnedR
    rw [if_neg h]
  · subst ek en
    have hR1 := hR.th f1
    refine g_pure 3 (i' := 27) (lv' := [some (vR 800), some (vI (nI k)), some (vI (nI n))]) (st' := [vI (nI n), vI (nI k), vR 800]) rfl ?_
    refine g_cV1E rfl (args := [vR 800, vI (nI k), vI (nI n)]) (rest := []) rfl rfl rfl (s_285 (d := d) hI.1 hR1.1 hI.2.2.1 hk hn.2) (fun s h9 => ?_)
    refine g_iret rfl (mR_v (hR1.sr (fun c c1 c2 c3 c4 c5 => h9 c c1 (by omega) (by omega))) (fun c hc => by rw [h9 c (by omega) (by omega) (by omega), f1, up_hi hc]) (by rw [h9 800 (by decide) (by decide) (by decide), f1, mu_self]) ?_)
    unfold warnedR
    rw [if_pos ((okx_nI (by omega)).mpr (by omega)), if_pos ((okr_nI (by omega) (by omega) (by omega)).mpr hn), nI_clamp (by omega), nI_clamp (by omega)]
  · subst ek
    refine mR_x ((hR.th f1).th f3) (fun c hc => by rw [f3, f1, up_hi hc, up_hi hc]) (c := 1) (by rw [f3, mu_self]) ?_
    unfold warnedR
    rw [if_pos ((okx_nI (by omega)).mpr (by omega)), if_neg (show ¬ okr y 0 200 from h)]
/-- all whom a set warns -/
def unU (w : Nat → Nat) (q : Nat) : Nat → Nat
  | 0 => 0
  | j + 1 => if q.testBit j = true then unU w q j ||| w j else unU w q j
theorem unU_lt {w : Nat → Nat} {q : Nat} {N : Nat} (hw : ∀ j, j < N → w j < 256) : ∀ n, n ≤ N → unU w q n < 256
  | 0, _ => by show 0 < 256; decide
  | n + 1, h => by
    have h1 := unU_lt (q := q) hw n (by omega)
    unfold unU
    split
    · exact or_lt (n := 8) h1 (hw n (by omega))
    · exact h1
/-- the fewest who must be told -/
def lsP (w : Nat → Nat) (P b : Nat) : Prop := (b = 2 ^ P - 1 ∨ (b < 2 ^ P - 1 ∧ unU w b P = 2 ^ P - 1)) ∧ ∀ s, s < 2 ^ P - 1 → unU w s P = 2 ^ P - 1 → popc 9 b < popc 9 s ∨ (popc 9 b = popc 9 s ∧ b ≤ s)
theorem pop_lt : ∀ P, P < 9 → ∀ s, s < 2 ^ P - 1 → popc 9 s < popc 9 (2 ^ P - 1) := by decide +kernel
theorem lsP_uq {w : Nat → Nat} {P b c : Nat} (hP : P < 9) (hb : lsP w P b) (hc : lsP w P c) : b = c := by
  rcases hb.1 with e1 | e1 <;> rcases hc.1 with e2 | e2
  · omega
  · have := hb.2 c e2.1 e2.2; have := pop_lt P hP c e2.1; rw [e1] at *; omega
  · have := hc.2 b e1.1 e1.2; have := pop_lt P hP b e1.1; rw [e2] at *; omega
  · have := hb.2 c e2.1 e2.2; have := hc.2 b e1.1 e1.2; omega
noncomputable def lsV (w : Nat → Nat) (P : Nat) : Nat := fnd (fun b => @decide (lsP w P b) (Classical.propDecidable _)) (2 ^ P) 0
theorem lsV_eq {w : Nat → Nat} {P b : Nat} (hP : P < 9) (hb : lsP w P b) : lsV w P = b := by
  have p1 : 1 ≤ 2 ^ P := Nat.one_le_two_pow
  have hl : b < 2 ^ P := by rcases hb.1 with e | e <;> omega
  refine fnd_eq (Nat.zero_le _) (by omega) (@decide_eq_true _ (Classical.propDecidable _) hb) (fun j _ hj => @decide_eq_false _ (Classical.propDecidable _) (fun h => ?_))
  have := lsP_uq hP hb h
  omega

theorem b_98_0 {X : Nat × (Nat → Int32)} {d : Nat} {p : Nat → Nat} {sg : Mg} {Q : am_R → Prop} {B : Nat} {S : Nat → Int32} (hI : Inv B S) (hL : cwL 250 sg S) (hD : cwD 200 sg S) {q : Nat} (u_q : q ≤ 255)
    (o1 : gW X (d) k_98 4 [some (vR 8), some (vI (nI q)), some (vI 0), some (vI 0)] [] p sg Q) :
    gW X (d) k_98 0 [some (vR 8), some (vI (nI q)), none, none] [] p sg Q := by
  have b0 := hI.b0; have b1 := hI.b1; have b2 := hI.b2; have b3 := hI.b3; have b4 := hI.b4; have b5 := hI.b5; have b6 := hI.b6; have b7 := hI.b7; have b8 := hI.b8; have b9 := hI.b9; have b14 := hI.b14
  refine g_pure 4 (i' := 4) (lv' := [some (vR 8), some (vI (nI q)), some (vI 0), some (vI 0)]) (st' := []) rfl ?_
  exact o1

theorem b_98_4 {X : Nat × (Nat → Int32)} {d : Nat} {p : Nat → Nat} {sg : Mg} {Q : am_R → Prop} {B : Nat} {S : Nat → Int32} (hI : Inv B S) (hL : cwL 250 sg S) (hD : cwD 200 sg S) {x : Nat} {q : Nat} {u : Nat} {j : Nat} (u_q : q ≤ 255) (u_u : u ≤ 255) (u_j : j ≤ 7) (q1 : x ≤ 255) (q2 : j < sn S 1) (hx : sg 13 j = nI x)
    (o1 : (((nI q >>> (nI j &&& 31)) &&& 1) = 0) → gW X (d) k_98 4 [some (vR 8), some (vI (nI q)), some (vI (nI u)), some (vI (nI (j + 1)))] [] p sg Q)
    (o2 : (¬ (((nI q >>> (nI j &&& 31)) &&& 1) = 0)) → gW X (d) k_98 4 [some (vR 8), some (vI (nI q)), some (vI (nI u ||| nI x)), some (vI (nI (j + 1)))] [] p sg Q) :
    gW X (d) k_98 4 [some (vR 8), some (vI (nI q)), some (vI (nI u)), some (vI (nI j))] [] p sg Q := by
  have b0 := hI.b0; have b1 := hI.b1; have b2 := hI.b2; have b3 := hI.b3; have b4 := hI.b4; have b5 := hI.b5; have b6 := hI.b6; have b7 := hI.b7; have b8 := hI.b8; have b9 := hI.b9; have b14 := hI.b14
  refine g_pure 5 (i' := 9) (lv' := [some (vR 8), some (vI (nI q)), some (vI (nI u)), some (vI (nI j))]) (st' := [vI 1, vR 203, vI (nI j)]) rfl ?_
  refine g_ald rfl (g_A (a := 203) (kd := 1) (n := 6) rfl (by decide)) (by decide) (show 1 = nI 1 from (show (1 : Int32) = nI 1 from rfl)) (by decide) (show _ = S 1 from (hD.cnt (by decide))) ?_
  refine g_if2 (i' := 26) (P := sn S 1 ≤ j) rfl rfl (g_geN (show nI j = nI j from (rfl : nI j = nI j)) (show S 1 = nI (sn S 1) from (hI.c1)) (by omega) (by omega)) (fun h1 => absurd h1 (by omega)) (fun _ => ?_)
  refine g_pure 5 (i' := 16) (lv' := [some (vR 8), some (vI (nI q)), some (vI (nI u)), some (vI (nI j))]) (st' := [vI ((nI q >>> (nI j &&& 31)) &&& 1)]) rfl ?_
  refine g_if1 (i' := 24) (P := ((nI q >>> (nI j &&& 31)) &&& 1) = 0) rfl rfl Iff.rfl (fun h2 => ?_) (fun h2 => ?_)
  · refine g_pure 2 (i' := 4) (lv' := [some (vR 8), some (vI (nI q)), some (vI (nI u)), some (vI (nI j + 1))]) (st' := []) rfl ?_
    refine gW_eq (lv' := [some (vR 8), some (vI (nI q)), some (vI (nI u)), some (vI (nI (j + 1)))]) (st' := []) (by rw [(show (nI j + 1) = nI (j + 1) from ((g_add (rfl : nI j = nI j) (show (1 : Int32) = nI 1 from rfl))).trans (congrArg nI (by omega)))]) rfl rfl ?_
    exact o1 h2
  · refine g_pure 4 (i' := 21) (lv' := [some (vR 8), some (vI (nI q)), some (vI (nI u)), some (vI (nI j))]) (st' := [vI (nI j), vR 13, vI (nI u)]) rfl ?_
    refine g_ald rfl (g_A (a := 13) (kd := 1) (n := 8) rfl (by decide)) (by decide) (show nI j = nI j from (rfl : nI j = nI j)) (by omega) (show _ = nI x from hx) ?_
    refine g_pure 4 (i' := 4) (lv' := [some (vR 8), some (vI (nI q)), some (vI (nI u ||| nI x)), some (vI (nI j + 1))]) (st' := []) rfl ?_
    refine gW_eq (lv' := [some (vR 8), some (vI (nI q)), some (vI (nI u ||| nI x)), some (vI (nI (j + 1)))]) (st' := []) (by rw [(show (nI j + 1) = nI (j + 1) from ((g_add (rfl : nI j = nI j) (show (1 : Int32) = nI 1 from rfl))).trans (congrArg nI (by omega)))]) rfl rfl ?_
    exact o2 h2

theorem b_98_e {X : Nat × (Nat → Int32)} {d : Nat} {p : Nat → Nat} {sg : Mg} {Q : am_R → Prop} {B : Nat} {S : Nat → Int32} (hI : Inv B S) (hL : cwL 250 sg S) (hD : cwD 200 sg S) {q : Nat} {u : Nat} (u_q : q ≤ 255) (u_u : u ≤ 255) (u_snS1 : sn S 1 ≤ 8)
    (o1 : Q (gRv p sg (nI u))) :
    gW X (d) k_98 4 [some (vR 8), some (vI (nI q)), some (vI (nI u)), some (vI (nI (sn S 1)))] [] p sg Q := by
  have b0 := hI.b0; have b1 := hI.b1; have b2 := hI.b2; have b3 := hI.b3; have b4 := hI.b4; have b5 := hI.b5; have b6 := hI.b6; have b7 := hI.b7; have b8 := hI.b8; have b9 := hI.b9; have b14 := hI.b14
  refine g_pure 5 (i' := 9) (lv' := [some (vR 8), some (vI (nI q)), some (vI (nI u)), some (vI (nI (sn S 1)))]) (st' := [vI 1, vR 203, vI (nI (sn S 1))]) rfl ?_
  refine g_ald rfl (g_A (a := 203) (kd := 1) (n := 6) rfl (by decide)) (by decide) (show 1 = nI 1 from (show (1 : Int32) = nI 1 from rfl)) (by decide) (show _ = S 1 from (hD.cnt (by decide))) ?_
  refine g_if2 (i' := 26) (P := sn S 1 ≤ sn S 1) rfl rfl (g_geN (show nI (sn S 1) = nI (sn S 1) from (rfl : nI (sn S 1) = nI (sn S 1))) (show S 1 = nI (sn S 1) from (hI.c1)) (by omega) (by omega)) (fun _ => ?_) (fun h1 => absurd (Nat.le_refl _) h1)
  refine g_pure 1 (i' := 27) (lv' := [some (vR 8), some (vI (nI q)), some (vI (nI u)), some (vI (nI (sn S 1)))]) (st' := [vI (nI u)]) rfl ?_
  refine g_iret rfl ?_
  exact o1

def wrM (a N : Nat) (s : Mg) (w : Nat → Nat) : Prop := ∀ u, u < N → s a u = nI (w u) ∧ w u < 256
theorem s_98 {X : Nat × (Nat → Int32)} {d : Nat} {p : Nat → Nat} {sg : Mg} {B : Nat} {S : Nat → Int32} (hI : Inv B S) (hL : cwL 250 sg S) (hD : cwD 200 sg S) {w : Nat → Nat} {q : Nat} (hq : q < 256) (hM : wrM 13 (sn S 1) sg w) : gF X (d + 1) 98 [vR 8, vI (nI q)] p sg (fun r => r = gRv p sg (nI (unU w q (sn S 1)))) := by
  have b1 := hI.b1
  have ul := unU_lt (q := q) (fun j hj => (hM j hj).2)
  refine g_in (cd := k_98) (nL := 4) (rc := 10) rfl (g_A (a := 8) (kd := 0) (n := 9) rfl (by decide)) (g_c1 rfl) (b_98_0 hI hL hD (by omega) ?_)
  have key := g_upI (P := fun j => gW X d k_98 4 [some (vR 8), some (vI (nI q)), some (vI (nI (unU w q j))), some (vI (nI j))] [] p sg (fun r => r = gRv p sg (nI (unU w q (sn S 1))))) (I := fun _ => True) (n := sn S 1) (a := 0) (by omega) trivial ?_ ?_
  · exact key
  · intro j _ hj _ ih
    have ih := ih trivial
    have m := hM j hj
    have u1 := ul j (by omega)
    have e : unU w q (j + 1) = if q.testBit j = true then unU w q j ||| w j else unU w q j := rfl
    rw [e] at ih
    refine b_98_4 hI hL hD (by omega) (by omega) (by omega) (by omega) hj m.1 (fun h => ?_) (fun h => ?_)
    · rw [nI_bit0 (by omega) (by omega)] at h
      rw [if_neg (by rw [h]; decide)] at ih
      exact ih
    · rw [nI_bit0 (by omega) (by omega)] at h
      rw [if_pos (by simpa using h)] at ih
      rw [nI_or]
      exact ih
  · intro _
    have u1 := ul (sn S 1) (Nat.le_refl _)
    exact b_98_e hI hL hD (by omega) (by omega) (by omega) rfl

theorem b_97_0 {X : Nat × (Nat → Int32)} {d : Nat} {p : Nat → Nat} {sg : Mg} {Q : am_R → Prop} {B : Nat} {S : Nat → Int32} (hI : Inv B S) (hL : cwL 250 sg S) (hD : cwD 200 sg S) (hW : LW S sg) {n : Nat} (u_n : n ≤ 200)
    (o1 : ∀ s1 : Mg, ((∀ c, c ≠ 8 → c ≠ 9 → s1 c = sg c) ∧ bOK S s1) → gW X (d + 9) k_97 16 [some (vR 8), some (vI (nI n)), some (vI (S 1)), some (vI ((1 <<< (S 1 &&& 31)) - 1)), some (vI 0), none] [] p s1 Q) :
    gW X (d + 9) k_97 0 [some (vR 8), some (vI (nI n)), none, none, none, none] [] p sg Q := by
  have b0 := hI.b0; have b1 := hI.b1; have b2 := hI.b2; have b3 := hI.b3; have b4 := hI.b4; have b5 := hI.b5; have b6 := hI.b6; have b7 := hI.b7; have b8 := hI.b8; have b9 := hI.b9; have b14 := hI.b14
  refine g_pure 1 (i' := 1) (lv' := [some (vR 8), some (vI (nI n)), none, none, none, none]) (st' := [vR 8]) rfl ?_
  refine g_cV0E rfl (args := [vR 8]) (rest := []) rfl rfl rfl (s_82 (d := d + 7) hW) (fun s1 es1 => ?_)
  have hLs1 : cwL 250 s1 S := (hL).eqc (fun c h1 h2 => es1.1 c (by omega) (by omega))
  have hDs1 : cwD 200 s1 S := (hD).eqc (fun c h1 => es1.1 c (by omega) (by omega))
  have hWs1 : LW S s1 := (hW).eqc (fun c h1 h2 => es1.1 c (by omega) (by omega))
  refine g_pure 4 (i' := 6) (lv' := [some (vR 8), some (vI (nI n)), none, none, none, none]) (st' := [vI 1, vR 203]) rfl ?_
  refine g_ald rfl (g_A (a := 203) (kd := 1) (n := 6) rfl (by decide)) (by decide) (show 1 = nI 1 from (show (1 : Int32) = nI 1 from rfl)) (by decide) (show _ = S 1 from (hDs1.cnt (by decide))) ?_
  refine g_pure 9 (i' := 16) (lv' := [some (vR 8), some (vI (nI n)), some (vI (S 1)), some (vI ((1 <<< (S 1 &&& 31)) - 1)), some (vI 0), none]) (st' := []) rfl ?_
  exact o1 s1 es1

theorem b_97_16 {X : Nat × (Nat → Int32)} {d : Nat} {p : Nat → Nat} {sg : Mg} {Q : am_R → Prop} {B : Nat} {S : Nat → Int32} (hI : Inv B S) (hL : cwL 250 sg S) (hD : cwD 200 sg S) (hW : LW S sg) (hB : bOK S sg) {n : Nat} {A : Int32} {j : Nat} {z5 : Option AV} (u_n : n ≤ 200) (u_snS1 : sn S 1 ≤ 8) (u_j : j ≤ 7) (q1 : j < sn S 1)
    (o1 : ∀ s2 : Mg, (WY sg s2 ∧ bOK S s2 ∧ s2 13 = sg 13) → ∀ s3 : Mg, s3 = mu s2 13 j (nI (bset (wnP S j (sn S 8 + n)) (sn S 1))) → gW X (d + 9) k_97 16 [some (vR 8), some (vI (nI n)), some (vI (nI (sn S 1))), some (vI A), some (vI (nI (j + 1))), z5] [] p s3 Q) :
    gW X (d + 9) k_97 16 [some (vR 8), some (vI (nI n)), some (vI (nI (sn S 1))), some (vI A), some (vI (nI j)), z5] [] p sg Q := by
  have b0 := hI.b0; have b1 := hI.b1; have b2 := hI.b2; have b3 := hI.b3; have b4 := hI.b4; have b5 := hI.b5; have b6 := hI.b6; have b7 := hI.b7; have b8 := hI.b8; have b9 := hI.b9; have b14 := hI.b14
  refine g_pure 2 (i' := 18) (lv' := [some (vR 8), some (vI (nI n)), some (vI (nI (sn S 1))), some (vI A), some (vI (nI j)), z5]) (st' := [vI (nI (sn S 1)), vI (nI j)]) rfl ?_
  refine g_if2 (i' := 33) (P := sn S 1 ≤ j) rfl rfl (g_geN (show nI j = nI j from (rfl : nI j = nI j)) (show nI (sn S 1) = nI (sn S 1) from (rfl : nI (sn S 1) = nI (sn S 1))) (by omega) (by omega)) (fun h1 => absurd h1 (by omega)) (fun _ => ?_)
  refine g_pure 7 (i' := 26) (lv' := [some (vR 8), some (vI (nI n)), some (vI (nI (sn S 1))), some (vI A), some (vI (nI j)), z5]) (st' := [vR 250, vI (nI j), vR 8, vI (nI j), vR 13]) rfl ?_
  refine g_getI rfl (g_A (a := 250) (kd := 0) (n := 6) rfl (by decide)) (show _ = S 8 from hL.f12) ?_
  refine g_pure 2 (i' := 29) (lv' := [some (vR 8), some (vI (nI n)), some (vI (nI (sn S 1))), some (vI A), some (vI (nI j)), z5]) (st' := [vI (S 8 + nI n), vI (nI j), vR 8, vI (nI j), vR 13]) rfl ?_
  refine gW_eq (lv' := [some (vR 8), some (vI (nI n)), some (vI (nI (sn S 1))), some (vI A), some (vI (nI j)), z5]) (st' := [vI (nI (sn S 8 + n)), vI (nI j), vR 8, vI (nI j), vR 13]) rfl (by rw [(show (S 8 + nI n) = nI (sn S 8 + n) from ((g_add (hI.c8) (rfl : nI n = nI n))).trans (congrArg nI (by omega)))]) rfl ?_
  refine g_cV1E rfl (args := [vR 8, vI (nI j), vI (nI (sn S 8 + n))]) (rest := [vI (nI j), vR 13]) rfl rfl rfl (s_95 (d := d + 1) hI hL hD hW hB (by omega) (by omega)) (fun s2 es2 => ?_)
  have hLs2 : cwL 250 s2 S := es2.1.L hL
  have hDs2 : cwD 200 s2 S := es2.1.D hD
  have hWs2 : LW S s2 := es2.1.W hW
  refine g_ast rfl (g_A (a := 13) (kd := 1) (n := 8) rfl (by decide)) (by decide) (show nI j = nI j from (rfl : nI j = nI j)) (by omega) ?_
  refine g_setv (fun s3 es3 => ?_)
  have hWs3 : LW S s3 := (hWs2).eqc (fun c c1 c2 => by rw [es3, mu_ne (by omega)])
  have hBs3 : bOK S s3 := by rw [es3]; exact es2.2.1.out (by decide)
  have hLs3 : cwL 250 s3 S := by rw [es3]; exact hLs2.out (by decide)
  have hDs3 : cwD 200 s3 S := by rw [es3]; exact hDs2.out (by decide)
  refine g_pure 2 (i' := 16) (lv' := [some (vR 8), some (vI (nI n)), some (vI (nI (sn S 1))), some (vI A), some (vI (nI j + 1)), z5]) (st' := []) rfl ?_
  refine gW_eq (lv' := [some (vR 8), some (vI (nI n)), some (vI (nI (sn S 1))), some (vI A), some (vI (nI (j + 1))), z5]) (st' := []) (by rw [(show (nI j + 1) = nI (j + 1) from ((g_add (rfl : nI j = nI j) (show (1 : Int32) = nI 1 from rfl))).trans (congrArg nI (by omega)))]) rfl rfl ?_
  exact o1 s2 es2 s3 es3

theorem b_97_16e {X : Nat × (Nat → Int32)} {d : Nat} {p : Nat → Nat} {sg : Mg} {Q : am_R → Prop} {B : Nat} {S : Nat → Int32} (hI : Inv B S) (hL : cwL 250 sg S) (hD : cwD 200 sg S) {n : Nat} {A : Int32} {z5 : Option AV} (u_n : n ≤ 200) (u_snS1 : sn S 1 ≤ 8) (u_snS1 : sn S 1 ≤ 8)
    (o1 : gW X (d + 9) k_97 37 [some (vR 8), some (vI (nI n)), some (vI (nI (sn S 1))), some (vI A), some (vI A), some (vI 0)] [] p sg Q) :
    gW X (d + 9) k_97 16 [some (vR 8), some (vI (nI n)), some (vI (nI (sn S 1))), some (vI A), some (vI (nI (sn S 1))), z5] [] p sg Q := by
  have b0 := hI.b0; have b1 := hI.b1; have b2 := hI.b2; have b3 := hI.b3; have b4 := hI.b4; have b5 := hI.b5; have b6 := hI.b6; have b7 := hI.b7; have b8 := hI.b8; have b9 := hI.b9; have b14 := hI.b14
  refine g_pure 2 (i' := 18) (lv' := [some (vR 8), some (vI (nI n)), some (vI (nI (sn S 1))), some (vI A), some (vI (nI (sn S 1))), z5]) (st' := [vI (nI (sn S 1)), vI (nI (sn S 1))]) rfl ?_
  refine g_if2 (i' := 33) (P := sn S 1 ≤ sn S 1) rfl rfl (g_geN (show nI (sn S 1) = nI (sn S 1) from (rfl : nI (sn S 1) = nI (sn S 1))) (show nI (sn S 1) = nI (sn S 1) from (rfl : nI (sn S 1) = nI (sn S 1))) (by omega) (by omega)) (fun _ => ?_) (fun h1 => absurd (Nat.le_refl _) h1)
  refine g_pure 4 (i' := 37) (lv' := [some (vR 8), some (vI (nI n)), some (vI (nI (sn S 1))), some (vI A), some (vI A), some (vI 0)]) (st' := []) rfl ?_
  exact o1

theorem b_97_37 {X : Nat × (Nat → Int32)} {d : Nat} {p : Nat → Nat} {sg : Mg} {Q : am_R → Prop} {B : Nat} {S : Nat → Int32} (hI : Inv B S) (hL : cwL 250 sg S) (hD : cwD 200 sg S) {w : Nat → Nat} (hM : wrM 13 (sn S 1) sg w) {z1 : Option AV} {z2 : Option AV} {a : Nat} {b : Nat} {j : Nat} (u_a : a ≤ 255) (u_b : b ≤ 255) (u_j : j ≤ 255)
    (o1 : (a ≤ j) → Q (gRv p sg (nI b)))
    (o2 : (¬ (a ≤ j)) → (bcI (nI b) ≤ bcI (nI j)) → gW X (d + 9) k_97 37 [some (vR 8), z1, z2, some (vI (nI a)), some (vI (nI b)), some (vI (nI (j + 1)))] [] p sg Q)
    (o3 : (¬ (a ≤ j)) → (¬ (bcI (nI b) ≤ bcI (nI j))) → (¬ unU w j (sn S 1) = a) → gW X (d + 9) k_97 37 [some (vR 8), z1, z2, some (vI (nI a)), some (vI (nI b)), some (vI (nI (j + 1)))] [] p sg Q)
    (o4 : (¬ (a ≤ j)) → (¬ (bcI (nI b) ≤ bcI (nI j))) → (unU w j (sn S 1) = a) → gW X (d + 9) k_97 37 [some (vR 8), z1, z2, some (vI (nI a)), some (vI (nI j)), some (vI (nI (j + 1)))] [] p sg Q) :
    gW X (d + 9) k_97 37 [some (vR 8), z1, z2, some (vI (nI a)), some (vI (nI b)), some (vI (nI j))] [] p sg Q := by
  have b0 := hI.b0; have b1 := hI.b1; have b2 := hI.b2; have b3 := hI.b3; have b4 := hI.b4; have b5 := hI.b5; have b6 := hI.b6; have b7 := hI.b7; have b8 := hI.b8; have b9 := hI.b9; have b14 := hI.b14
  refine g_pure 2 (i' := 39) (lv' := [some (vR 8), z1, z2, some (vI (nI a)), some (vI (nI b)), some (vI (nI j))]) (st' := [vI (nI a), vI (nI j)]) rfl ?_
  refine g_if2 (i' := 54) (P := a ≤ j) rfl rfl (g_geN (show nI j = nI j from (rfl : nI j = nI j)) (show nI a = nI a from (rfl : nI a = nI a)) (by omega) (by omega)) (fun h1 => ?_) (fun h1 => ?_)
  · refine g_pure 1 (i' := 55) (lv' := [some (vR 8), z1, z2, some (vI (nI a)), some (vI (nI b)), some (vI (nI j))]) (st' := [vI (nI b)]) rfl ?_
    refine g_iret rfl ?_
    exact o1 h1
  · refine g_pure 1 (i' := 41) (lv' := [some (vR 8), z1, z2, some (vI (nI a)), some (vI (nI b)), some (vI (nI j))]) (st' := [vI (nI j)]) rfl ?_
    refine g_cS1 rfl (args := [vI (nI j)]) (rest := []) rfl rfl rfl (s_317 (d := d + 8) ) ?_
    refine g_pure 1 (i' := 43) (lv' := [some (vR 8), z1, z2, some (vI (nI a)), some (vI (nI b)), some (vI (nI j))]) (st' := [vI (nI b), vI (bcI (nI j))]) rfl ?_
    refine g_cS1 rfl (args := [vI (nI b)]) (rest := [vI (bcI (nI j))]) rfl rfl rfl (s_317 (d := d + 8) ) ?_
    refine g_if2 (i' := 52) (P := bcI (nI b) ≤ bcI (nI j)) rfl rfl Iff.rfl (fun h2 => ?_) (fun h2 => ?_)
    · refine g_pure 2 (i' := 37) (lv' := [some (vR 8), z1, z2, some (vI (nI a)), some (vI (nI b)), some (vI (nI j + 1))]) (st' := []) rfl ?_
      refine gW_eq (lv' := [some (vR 8), z1, z2, some (vI (nI a)), some (vI (nI b)), some (vI (nI (j + 1)))]) (st' := []) (by rw [(show (nI j + 1) = nI (j + 1) from ((g_add (rfl : nI j = nI j) (show (1 : Int32) = nI 1 from rfl))).trans (congrArg nI (by omega)))]) rfl rfl ?_
      exact o2 h1 h2
    · refine g_pure 2 (i' := 47) (lv' := [some (vR 8), z1, z2, some (vI (nI a)), some (vI (nI b)), some (vI (nI j))]) (st' := [vI (nI j), vR 8]) rfl ?_
      refine g_cV1 rfl (args := [vR 8, vI (nI j)]) (rest := []) rfl rfl rfl (s_98 (d := d + 8) hI hL hD (by omega) hM) ?_
      have t3 := unU_lt (q := j) (fun j hj => (hM j hj).2) (sn S 1) (Nat.le_refl _)
      refine g_pure 1 (i' := 49) (lv' := [some (vR 8), z1, z2, some (vI (nI a)), some (vI (nI b)), some (vI (nI j))]) (st' := [vI (nI a), vI (nI (unU w j (sn S 1)))]) rfl ?_
      refine g_if2 (i' := 52) (P := ¬ unU w j (sn S 1) = a) rfl rfl (g_neN (show nI (unU w j (sn S 1)) = nI (unU w j (sn S 1)) from (rfl : nI (unU w j (sn S 1)) = nI (unU w j (sn S 1)))) (show nI a = nI a from (rfl : nI a = nI a)) (by omega) (by omega)) (fun h4 => ?_) (fun h4 => ?_)
      · refine g_pure 2 (i' := 37) (lv' := [some (vR 8), z1, z2, some (vI (nI a)), some (vI (nI b)), some (vI (nI j + 1))]) (st' := []) rfl ?_
        refine gW_eq (lv' := [some (vR 8), z1, z2, some (vI (nI a)), some (vI (nI b)), some (vI (nI (j + 1)))]) (st' := []) (by rw [(show (nI j + 1) = nI (j + 1) from ((g_add (rfl : nI j = nI j) (show (1 : Int32) = nI 1 from rfl))).trans (congrArg nI (by omega)))]) rfl rfl ?_
        exact o3 h1 h2 h4
      · have h4 := Classical.not_not.mp h4
        refine g_pure 4 (i' := 37) (lv' := [some (vR 8), z1, z2, some (vI (nI a)), some (vI (nI j)), some (vI (nI j + 1))]) (st' := []) rfl ?_
        refine gW_eq (lv' := [some (vR 8), z1, z2, some (vI (nI a)), some (vI (nI j)), some (vI (nI (j + 1)))]) (st' := []) (by rw [(show (nI j + 1) = nI (j + 1) from ((g_add (rfl : nI j = nI j) (show (1 : Int32) = nI 1 from rfl))).trans (congrArg nI (by omega)))]) rfl rfl ?_
        exact o4 h1 h2 h4

theorem b_165_0 {X : Nat × (Nat → Int32)} {d : Nat} {p : Nat → Nat} {sg : Mg} {Q : am_R → Prop} {B : Nat} {S : Nat → Int32} (hI : Inv B S) (hL : cwL 250 sg S) (hD : cwD 200 sg S) {x : Int32}
    (o1 : ∀ n2 : Nat, x = nI n2 → 0 ≤ n2 ∧ n2 ≤ 200 → gW X (d + 10) k_165 4 [some (vR 0), some (vI (nI n2))] [] p sg Q)
    (o2 : (¬ (¬ (x < 0) ∧ ¬ (200 < x))) → Q (gRx p sg 0)) :
    gW X (d + 10) k_165 0 [some (vR 0), some (vI x)] [] p sg Q := by
  have b0 := hI.b0; have b1 := hI.b1; have b2 := hI.b2; have b3 := hI.b3; have b4 := hI.b4; have b5 := hI.b5; have b6 := hI.b6; have b7 := hI.b7; have b8 := hI.b8; have b9 := hI.b9; have b14 := hI.b14
  refine g_pure 3 (i' := 3) (lv' := [some (vR 0), some (vI x)]) (st' := [vI 200, vI 0, vI x]) rfl ?_
  by_cases h1 : (¬ (x < 0) ∧ ¬ (200 < x))
  · obtain ⟨n2, ln2, en2⟩ := okr_of (lo := 0) (hi := 200) (by decide) h1
    subst en2
    refine g_cS0 rfl (args := [vI (nI n2), vI 0, vI 200]) (rest := []) rfl rfl rfl (s_141o (d := d + 9) (nI_nlt (b := 0) (by omega) (by omega)) (nI_nlt (a := 200) (by omega) (by omega))) ?_
    exact o1 n2 rfl ln2
  · refine g_cSx rfl (args := [vI x, vI 0, vI 200]) (rest := []) rfl rfl rfl (s_141x (d := d + 9) (by assumption)) ?_
    exact o2 h1

theorem b_287_0 {X : Nat × (Nat → Int32)} {d : Nat} {p : Nat → Nat} {sg : Mg} {Q : am_R → Prop} {B : Nat} {S : Nat → Int32} (hI : Inv B S) (hS : sg 801 = S) {x : Int32}
    (o1 : ∀ s1 : Mg, s1 = mu sg 800 0 0 → ∀ n3 : Nat, x = nI n3 → 0 ≤ n3 ∧ n3 ≤ 200 → gW X (d + 11) k_287 17 [some (vR 800), some (vI (nI n3)), none, none, none, none, none] [] p s1 Q)
    (o2 : ∀ s1 : Mg, s1 = mu sg 800 0 0 → (¬ (¬ (x < 0) ∧ ¬ (200 < x))) → ∀ s5 : Mg, s5 = mu s1 800 0 (nI 1) → Q (gRv p s5 0)) :
    gW X (d + 11) k_287 0 [some (vR 800), some (vI x), none, none, none, none, none] [] p sg Q := by
  have b0 := hI.b0; have b1 := hI.b1; have b2 := hI.b2; have b3 := hI.b3; have b4 := hI.b4; have b5 := hI.b5; have b6 := hI.b6; have b7 := hI.b7; have b8 := hI.b8; have b9 := hI.b9; have b14 := hI.b14
  refine g_pure 2 (i' := 2) (lv' := [some (vR 800), some (vI x), none, none, none, none, none]) (st' := [vI 0, vR 800]) rfl ?_
  refine g_putI rfl (g_A (a := 800) (kd := 0) (n := 12) rfl (by decide)) ?_
  refine g_setv (fun s1 es1 => ?_)
  have hSs1 : s1 801 = S := by rw [es1, mu_ne (by decide), hS]
  refine g_pure 4 (i' := 7) (lv' := [some (vR 800), some (vI x), none, none, none, none, none]) (st' := [vI 200, vI 0, vI x, vR 800]) rfl ?_
  refine g_cS1 rfl (args := [vI x, vI 0, vI 200]) (rest := [vR 800]) rfl rfl rfl (s_231 (d := d + 10) ) ?_
  refine g_if1 (i' := 11) (P := (¬ (x < 0) ∧ ¬ (200 < x))) rfl rfl g_neB (fun h2 => ?_) (fun h2 => ?_)
  · obtain ⟨n3, ln3, en3⟩ := okr_of (lo := 0) (hi := 200) (by decide) h2
    subst en3
    refine g_pure 2 (i' := 13) (lv' := [some (vR 800), some (vI (nI n3)), none, none, none, none, none]) (st' := [vI 1, vI 0, vR 800]) rfl ?_
    refine gW_eq (st' := [vI (nI 1), vI 0, vR 800]) rfl (by rw [(show (1 : Int32) = nI 1 from rfl)]) rfl ?_
    refine g_cV1 rfl (args := [vR 800, vI 0, vI (nI 1)]) (rest := []) rfl rfl rfl (s_227f (d := d + 10) (by omega)) ?_
    refine g_if1 (i' := 17) (P := 0 = 0) rfl rfl (g_eqN (show 0 = nI 0 from (show (0 : Int32) = nI 0 from rfl)) (show 0 = nI 0 from (show (0 : Int32) = nI 0 from rfl)) (by omega) (by omega)) (fun _ => ?_) (fun h4 => absurd (by omega) h4)
    exact o1 s1 es1 n3 rfl ln3
  · refine g_pure 3 (i' := 13) (lv' := [some (vR 800), some (vI x), none, none, none, none, none]) (st' := [vI 1, vI 1, vR 800]) rfl ?_
    refine gW_eq (st' := [vI (nI 1), vI 1, vR 800]) rfl (by rw [(show (1 : Int32) = nI 1 from rfl)]) rfl ?_
    refine g_cV1 rfl (args := [vR 800, vI 1, vI (nI 1)]) (rest := []) rfl rfl rfl (s_227t (d := d + 10) (by omega)) ?_
    refine g_setv (fun s5 es5 => ?_)
    have hSs5 : s5 801 = S := by rw [es5, mu_ne (by decide), hSs1]
    refine g_if1 (i' := 17) (P := 1 = 0) rfl rfl (g_eqN (show 1 = nI 1 from (show (1 : Int32) = nI 1 from rfl)) (show 0 = nI 0 from (show (0 : Int32) = nI 0 from rfl)) (by omega) (by omega)) (fun h6 => absurd h6 (by omega)) (fun _ => ?_)
    refine g_pure 1 (i' := 16) (lv' := [some (vR 800), some (vI x), none, none, none, none, none]) (st' := [vI 0]) rfl ?_
    refine g_iret rfl ?_
    exact o2 s1 es1 h2 s5 es5

theorem b_287_19 {X : Nat × (Nat → Int32)} {d : Nat} {p : Nat → Nat} {sg : Mg} {Q : am_R → Prop} {B : Nat} {S : Nat → Int32} (hI : Inv B S) (hS : sg 801 = S) (hA : InvA S) {n : Nat} {j : Nat} (u_n : n ≤ 200) (u_j : j ≤ 7) (q1 : j < sn S 1)
    (o1 : ∀ s2 : Mg, (ST sg s2) → ∀ s3 : Mg, s3 = mu s2 813 j (nI (bset (wnP S j (sn S 8 + n)) (sn S 1))) → gW X (d + 11) k_287 19 [some (vR 800), some (vI (nI n)), some (vI (nI (j + 1))), none, none, none, none] [] p s3 Q) :
    gW X (d + 11) k_287 19 [some (vR 800), some (vI (nI n)), some (vI (nI j)), none, none, none, none] [] p sg Q := by
  have b0 := hI.b0; have b1 := hI.b1; have b2 := hI.b2; have b3 := hI.b3; have b4 := hI.b4; have b5 := hI.b5; have b6 := hI.b6; have b7 := hI.b7; have b8 := hI.b8; have b9 := hI.b9; have b14 := hI.b14
  refine g_pure 2 (i' := 21) (lv' := [some (vR 800), some (vI (nI n)), some (vI (nI j)), none, none, none, none]) (st' := [vR 800, vI (nI j)]) rfl ?_
  refine g_cV1 rfl (args := [vR 800]) (rest := [vI (nI j)]) rfl rfl rfl (s_203 (d := d + 10) hS) ?_
  refine g_if2 (i' := 33) (P := sn S 1 ≤ j) rfl rfl (g_geN (show nI j = nI j from (rfl : nI j = nI j)) (show S 1 = nI (sn S 1) from (hI.c1)) (by omega) (by omega)) (fun h1 => absurd h1 (by omega)) (fun _ => ?_)
  refine g_pure 6 (i' := 29) (lv' := [some (vR 800), some (vI (nI n)), some (vI (nI j)), none, none, none, none]) (st' := [vI (nI n), vI (nI j), vR 800, vI (nI j), vR 813]) rfl ?_
  refine g_cV1E rfl (args := [vR 800, vI (nI j), vI (nI n)]) (rest := [vI (nI j), vR 813]) rfl rfl rfl (s_285 (d := d) hI hS hA (by omega) (by omega)) (fun s2 es2 => ?_)
  have hSs2 : s2 801 = S := es2.S hS
  refine g_ast rfl (g_A (a := 813) (kd := 1) (n := 8) rfl (by decide)) (by decide) (show nI j = nI j from (rfl : nI j = nI j)) (by omega) ?_
  refine g_setv (fun s3 es3 => ?_)
  have hSs3 : s3 801 = S := by rw [es3, mu_ne (by decide), hSs2]
  refine g_pure 2 (i' := 19) (lv' := [some (vR 800), some (vI (nI n)), some (vI (nI j + 1)), none, none, none, none]) (st' := []) rfl ?_
  refine gW_eq (lv' := [some (vR 800), some (vI (nI n)), some (vI (nI (j + 1))), none, none, none, none]) (st' := []) (by rw [(show (nI j + 1) = nI (j + 1) from ((g_add (rfl : nI j = nI j) (show (1 : Int32) = nI 1 from rfl))).trans (congrArg nI (by omega)))]) rfl rfl ?_
  exact o1 s2 es2 s3 es3

theorem b_287_19e {X : Nat × (Nat → Int32)} {d : Nat} {p : Nat → Nat} {sg : Mg} {Q : am_R → Prop} {B : Nat} {S : Nat → Int32} (hI : Inv B S) (hS : sg 801 = S) {n : Nat} (u_n : n ≤ 200) (u_snS1 : sn S 1 ≤ 8)
    (o1 : gW X (d + 11) k_287 33 [some (vR 800), some (vI (nI n)), some (vI (nI (sn S 1))), none, none, none, none] [] p sg Q) :
    gW X (d + 11) k_287 19 [some (vR 800), some (vI (nI n)), some (vI (nI (sn S 1))), none, none, none, none] [] p sg Q := by
  have b0 := hI.b0; have b1 := hI.b1; have b2 := hI.b2; have b3 := hI.b3; have b4 := hI.b4; have b5 := hI.b5; have b6 := hI.b6; have b7 := hI.b7; have b8 := hI.b8; have b9 := hI.b9; have b14 := hI.b14
  refine g_pure 2 (i' := 21) (lv' := [some (vR 800), some (vI (nI n)), some (vI (nI (sn S 1))), none, none, none, none]) (st' := [vR 800, vI (nI (sn S 1))]) rfl ?_
  refine g_cV1 rfl (args := [vR 800]) (rest := [vI (nI (sn S 1))]) rfl rfl rfl (s_203 (d := d + 10) hS) ?_
  refine g_if2 (i' := 33) (P := sn S 1 ≤ sn S 1) rfl rfl (g_geN (show nI (sn S 1) = nI (sn S 1) from (rfl : nI (sn S 1) = nI (sn S 1))) (show S 1 = nI (sn S 1) from (hI.c1)) (by omega) (by omega)) (fun _ => ?_) (fun h1 => absurd (Nat.le_refl _) h1)
  exact o1

theorem b_287_44e {X : Nat × (Nat → Int32)} {d : Nat} {p : Nat → Nat} {sg : Mg} {Q : am_R → Prop} {B : Nat} {S : Nat → Int32} (hI : Inv B S) (hS : sg 801 = S) {z1 : Option AV} {a : Nat} {b : Nat} {z5 : Option AV} {z6 : Option AV} (u_a : a ≤ 255) (u_b : b ≤ 255)
    (o1 : Q (gRv p sg (nI b))) :
    gW X (d + 11) k_287 44 [some (vR 800), z1, some (vI (nI a)), some (vI (nI b)), some (vI (-1)), z5, z6] [] p sg Q := by
  have b0 := hI.b0; have b1 := hI.b1; have b2 := hI.b2; have b3 := hI.b3; have b4 := hI.b4; have b5 := hI.b5; have b6 := hI.b6; have b7 := hI.b7; have b8 := hI.b8; have b9 := hI.b9; have b14 := hI.b14
  refine g_pure 1 (i' := 45) (lv' := [some (vR 800), z1, some (vI (nI a)), some (vI (nI b)), some (vI (-1)), z5, z6]) (st' := [vI (-1)]) rfl ?_
  refine g_if1 (i' := 83) (P := ((-1) : Int32) < 0) rfl rfl Iff.rfl (fun _ => ?_) (fun h1 => absurd (by decide) h1)
  refine g_pure 1 (i' := 84) (lv' := [some (vR 800), z1, some (vI (nI a)), some (vI (nI b)), some (vI (-1)), z5, z6]) (st' := [vI (nI b)]) rfl ?_
  refine g_iret rfl ?_
  exact o1

theorem b_287_44 {X : Nat × (Nat → Int32)} {d : Nat} {p : Nat → Nat} {sg : Mg} {Q : am_R → Prop} {B : Nat} {S : Nat → Int32} (hI : Inv B S) (hS : sg 801 = S) {z1 : Option AV} {a : Nat} {b : Nat} {q : Nat} {z5 : Option AV} {z6 : Option AV} (u_a : a ≤ 255) (u_b : b ≤ 255) (u_q : q ≤ 255)
    (o1 : gW X (d + 11) k_287 50 [some (vR 800), z1, some (vI (nI a)), some (vI (nI b)), some (vI (nI q)), some (vI 0), some (vI 0)] [] p sg Q) :
    gW X (d + 11) k_287 44 [some (vR 800), z1, some (vI (nI a)), some (vI (nI b)), some (vI (nI q)), z5, z6] [] p sg Q := by
  have b0 := hI.b0; have b1 := hI.b1; have b2 := hI.b2; have b3 := hI.b3; have b4 := hI.b4; have b5 := hI.b5; have b6 := hI.b6; have b7 := hI.b7; have b8 := hI.b8; have b9 := hI.b9; have b14 := hI.b14
  refine g_pure 1 (i' := 45) (lv' := [some (vR 800), z1, some (vI (nI a)), some (vI (nI b)), some (vI (nI q)), z5, z6]) (st' := [vI (nI q)]) rfl ?_
  refine g_if1 (i' := 83) (P := q < 0) rfl rfl (g_ltN (show nI q = nI q from (rfl : nI q = nI q)) (show 0 = nI 0 from (show (0 : Int32) = nI 0 from rfl)) (by omega) (by omega)) (fun h1 => absurd h1 (by omega)) (fun _ => ?_)
  refine g_pure 4 (i' := 50) (lv' := [some (vR 800), z1, some (vI (nI a)), some (vI (nI b)), some (vI (nI q)), some (vI 0), some (vI 0)]) (st' := []) rfl ?_
  exact o1

theorem b_287_50 {X : Nat × (Nat → Int32)} {d : Nat} {p : Nat → Nat} {sg : Mg} {Q : am_R → Prop} {B : Nat} {S : Nat → Int32} (hI : Inv B S) (hS : sg 801 = S) {x : Nat} {z1 : Option AV} {a : Nat} {b : Nat} {q : Nat} {u : Nat} {j : Nat} (u_a : a ≤ 255) (u_b : b ≤ 255) (u_q : q ≤ 255) (u_u : u ≤ 255) (u_j : j ≤ 7) (q1 : x ≤ 255) (q2 : j < sn S 1) (hx : sg 813 j = nI x)
    (o1 : (¬ ((((nI q) >>> ((nI j) &&& 31)) &&& 1) = 1)) → gW X (d + 11) k_287 50 [some (vR 800), z1, some (vI (nI a)), some (vI (nI b)), some (vI (nI q)), some (vI (nI u ||| 0)), some (vI (nI (j + 1)))] [] p sg Q)
    (o2 : (((((nI q) >>> ((nI j) &&& 31)) &&& 1) = 1)) → gW X (d + 11) k_287 50 [some (vR 800), z1, some (vI (nI a)), some (vI (nI b)), some (vI (nI q)), some (vI (nI u ||| nI x)), some (vI (nI (j + 1)))] [] p sg Q) :
    gW X (d + 11) k_287 50 [some (vR 800), z1, some (vI (nI a)), some (vI (nI b)), some (vI (nI q)), some (vI (nI u)), some (vI (nI j))] [] p sg Q := by
  have b0 := hI.b0; have b1 := hI.b1; have b2 := hI.b2; have b3 := hI.b3; have b4 := hI.b4; have b5 := hI.b5; have b6 := hI.b6; have b7 := hI.b7; have b8 := hI.b8; have b9 := hI.b9; have b14 := hI.b14
  refine g_pure 2 (i' := 52) (lv' := [some (vR 800), z1, some (vI (nI a)), some (vI (nI b)), some (vI (nI q)), some (vI (nI u)), some (vI (nI j))]) (st' := [vR 800, vI (nI j)]) rfl ?_
  refine g_cV1 rfl (args := [vR 800]) (rest := [vI (nI j)]) rfl rfl rfl (s_203 (d := d + 10) hS) ?_
  refine g_if2 (i' := 69) (P := sn S 1 ≤ j) rfl rfl (g_geN (show nI j = nI j from (rfl : nI j = nI j)) (show S 1 = nI (sn S 1) from (hI.c1)) (by omega) (by omega)) (fun h1 => absurd h1 (by omega)) (fun _ => ?_)
  refine g_pure 3 (i' := 57) (lv' := [some (vR 800), z1, some (vI (nI a)), some (vI (nI b)), some (vI (nI q)), some (vI (nI u)), some (vI (nI j))]) (st' := [vI (nI j), vI (nI q), vI (nI u)]) rfl ?_
  refine g_cS1 rfl (args := [vI (nI q), vI (nI j)]) (rest := [vI (nI u)]) rfl rfl rfl (s_201 (d := d + 10) ) ?_
  refine g_if1 (i' := 64) (P := ¬ ((((nI q) >>> ((nI j) &&& 31)) &&& 1) = 1)) rfl rfl g_eqB (fun h2 => ?_) (fun h2 => ?_)
  · refine g_pure 5 (i' := 50) (lv' := [some (vR 800), z1, some (vI (nI a)), some (vI (nI b)), some (vI (nI q)), some (vI (nI u ||| 0)), some (vI (nI j + 1))]) (st' := []) rfl ?_
    refine gW_eq (lv' := [some (vR 800), z1, some (vI (nI a)), some (vI (nI b)), some (vI (nI q)), some (vI (nI u ||| 0)), some (vI (nI (j + 1)))]) (st' := []) (by rw [(show (nI j + 1) = nI (j + 1) from ((g_add (rfl : nI j = nI j) (show (1 : Int32) = nI 1 from rfl))).trans (congrArg nI (by omega)))]) rfl rfl ?_
    exact o1 h2
  · have h2 := Classical.not_not.mp h2
    refine g_pure 3 (i' := 62) (lv' := [some (vR 800), z1, some (vI (nI a)), some (vI (nI b)), some (vI (nI q)), some (vI (nI u)), some (vI (nI j))]) (st' := [vI (nI j), vR 813, vI (nI u)]) rfl ?_
    refine g_ald rfl (g_A (a := 813) (kd := 1) (n := 8) rfl (by decide)) (by decide) (show nI j = nI j from (rfl : nI j = nI j)) (by omega) (show _ = nI x from hx) ?_
    refine g_pure 5 (i' := 50) (lv' := [some (vR 800), z1, some (vI (nI a)), some (vI (nI b)), some (vI (nI q)), some (vI (nI u ||| nI x)), some (vI (nI j + 1))]) (st' := []) rfl ?_
    refine gW_eq (lv' := [some (vR 800), z1, some (vI (nI a)), some (vI (nI b)), some (vI (nI q)), some (vI (nI u ||| nI x)), some (vI (nI (j + 1)))]) (st' := []) (by rw [(show (nI j + 1) = nI (j + 1) from ((g_add (rfl : nI j = nI j) (show (1 : Int32) = nI 1 from rfl))).trans (congrArg nI (by omega)))]) rfl rfl ?_
    exact o2 h2

theorem b_287_50e {X : Nat × (Nat → Int32)} {d : Nat} {p : Nat → Nat} {sg : Mg} {Q : am_R → Prop} {B : Nat} {S : Nat → Int32} (hI : Inv B S) (hS : sg 801 = S) {z1 : Option AV} {a : Nat} {b : Nat} {q : Nat} {u : Nat} (u_a : a ≤ 255) (u_b : b ≤ 255) (u_q : q ≤ 255) (u_u : u ≤ 255) (u_snS1 : sn S 1 ≤ 8)
    (o1 : (¬ u = a) → gW X (d + 11) k_287 44 [some (vR 800), z1, some (vI (nI a)), some (vI (nI b)), some (vI (nI q + -1)), some (vI (nI u)), some (vI (nI (sn S 1)))] [] p sg Q)
    (o2 : (u = a) → (bcI (nI b) < bcI (nI q)) → gW X (d + 11) k_287 44 [some (vR 800), z1, some (vI (nI a)), some (vI (nI b)), some (vI (nI q + -1)), some (vI (nI u)), some (vI (nI (sn S 1)))] [] p sg Q)
    (o3 : (u = a) → (¬ (bcI (nI b) < bcI (nI q))) → gW X (d + 11) k_287 44 [some (vR 800), z1, some (vI (nI a)), some (vI (nI q)), some (vI (nI q + -1)), some (vI (nI u)), some (vI (nI (sn S 1)))] [] p sg Q) :
    gW X (d + 11) k_287 50 [some (vR 800), z1, some (vI (nI a)), some (vI (nI b)), some (vI (nI q)), some (vI (nI u)), some (vI (nI (sn S 1)))] [] p sg Q := by
  have b0 := hI.b0; have b1 := hI.b1; have b2 := hI.b2; have b3 := hI.b3; have b4 := hI.b4; have b5 := hI.b5; have b6 := hI.b6; have b7 := hI.b7; have b8 := hI.b8; have b9 := hI.b9; have b14 := hI.b14
  refine g_pure 2 (i' := 52) (lv' := [some (vR 800), z1, some (vI (nI a)), some (vI (nI b)), some (vI (nI q)), some (vI (nI u)), some (vI (nI (sn S 1)))]) (st' := [vR 800, vI (nI (sn S 1))]) rfl ?_
  refine g_cV1 rfl (args := [vR 800]) (rest := [vI (nI (sn S 1))]) rfl rfl rfl (s_203 (d := d + 10) hS) ?_
  refine g_if2 (i' := 69) (P := sn S 1 ≤ sn S 1) rfl rfl (g_geN (show nI (sn S 1) = nI (sn S 1) from (rfl : nI (sn S 1) = nI (sn S 1))) (show S 1 = nI (sn S 1) from (hI.c1)) (by omega) (by omega)) (fun _ => ?_) (fun h1 => absurd (Nat.le_refl _) h1)
  refine g_pure 2 (i' := 71) (lv' := [some (vR 800), z1, some (vI (nI a)), some (vI (nI b)), some (vI (nI q)), some (vI (nI u)), some (vI (nI (sn S 1)))]) (st' := [vI (nI a), vI (nI u)]) rfl ?_
  refine g_if2 (i' := 79) (P := ¬ u = a) rfl rfl (g_neN (show nI u = nI u from (rfl : nI u = nI u)) (show nI a = nI a from (rfl : nI a = nI a)) (by omega) (by omega)) (fun h2 => ?_) (fun h2 => ?_)
  · refine g_pure 4 (i' := 44) (lv' := [some (vR 800), z1, some (vI (nI a)), some (vI (nI b)), some (vI (nI q + -1)), some (vI (nI u)), some (vI (nI (sn S 1)))]) (st' := []) rfl ?_
    exact o1 h2
  · have h2 := Classical.not_not.mp h2
    refine g_pure 1 (i' := 73) (lv' := [some (vR 800), z1, some (vI (nI a)), some (vI (nI b)), some (vI (nI q)), some (vI (nI u)), some (vI (nI (sn S 1)))]) (st' := [vI (nI q)]) rfl ?_
    refine g_cS1 rfl (args := [vI (nI q)]) (rest := []) rfl rfl rfl (s_317 (d := d + 10) ) ?_
    refine g_pure 1 (i' := 75) (lv' := [some (vR 800), z1, some (vI (nI a)), some (vI (nI b)), some (vI (nI q)), some (vI (nI u)), some (vI (nI (sn S 1)))]) (st' := [vI (nI b), vI (bcI (nI q))]) rfl ?_
    refine g_cS1 rfl (args := [vI (nI b)]) (rest := [vI (bcI (nI q))]) rfl rfl rfl (s_317 (d := d + 10) ) ?_
    refine g_if2 (i' := 79) (P := bcI (nI b) < bcI (nI q)) rfl rfl Iff.rfl (fun h3 => ?_) (fun h3 => ?_)
    · refine g_pure 4 (i' := 44) (lv' := [some (vR 800), z1, some (vI (nI a)), some (vI (nI b)), some (vI (nI q + -1)), some (vI (nI u)), some (vI (nI (sn S 1)))]) (st' := []) rfl ?_
      exact o2 h2 h3
    · refine g_pure 5 (i' := 44) (lv' := [some (vR 800), z1, some (vI (nI a)), some (vI (nI q)), some (vI (nI q + -1)), some (vI (nI u)), some (vI (nI (sn S 1)))]) (st' := []) rfl ?_
      exact o3 h2 h3

theorem bc_le {a b : Nat} (ha : a < 256) (hb : b < 256) : bcI (nI a) ≤ bcI (nI b) ↔ popc 9 a ≤ popc 9 b := by
  have p9 : ∀ k, k < 256 → popc 9 k < 10 := by decide +kernel
  have := p9 a ha; have := p9 b hb
  rw [bcI_nI a (by omega), bcI_nI b (by omega), nI_leI (by omega) (by omega)]
theorem bc_lt {a b : Nat} (ha : a < 256) (hb : b < 256) : bcI (nI a) < bcI (nI b) ↔ popc 9 a < popc 9 b := by
  have p9 : ∀ k, k < 256 → popc 9 k < 10 := by decide +kernel
  have := p9 a ha; have := p9 b hb
  rw [bcI_nI a (by omega), bcI_nI b (by omega), nI_ltI (by omega) (by omega)]
noncomputable def wnF (S : Nat → Int32) (n p0 : Nat) : Nat := bset (wnP S p0 (sn S 8 + n)) (sn S 1)
noncomputable def leastR (S : Nat → Int32) (x : Int32) : Nat × Int32 := if okr x 0 200 then (0, nI (lsV (wnF S x.toNatClampNeg) (sn S 1))) else (1, 0)
/-- the best of the sets below i -/
def lsL (w : Nat → Nat) (P b i : Nat) : Prop := (b = 2 ^ P - 1 ∨ (b < 2 ^ P - 1 ∧ b < i ∧ unU w b P = 2 ^ P - 1)) ∧ ∀ s, s < 2 ^ P - 1 → s < i → unU w s P = 2 ^ P - 1 → popc 9 b < popc 9 s ∨ (popc 9 b = popc 9 s ∧ b ≤ s)
theorem lsL.skip {w : Nat → Nat} {P b i : Nat} (hP : P < 9) (h : lsL w P b i) (hi : i < 2 ^ P - 1) (hn : popc 9 b ≤ popc 9 i ∨ ¬ unU w i P = 2 ^ P - 1) : lsL w P b (i + 1) := by
  refine ⟨h.1.imp id (fun g => ⟨g.1, by omega, g.2.2⟩), fun s hs hsi hu => ?_⟩
  by_cases e : s = i
  · subst e
    rcases hn with hn | hn
    · rcases h.1 with g | g
      · have := pop_lt P hP s hs; rw [g] at hn ⊢; omega
      · omega
    · exact absurd hu hn
  · exact h.2 s hs (by omega) hu
theorem lsL.take {w : Nat → Nat} {P b i : Nat} (h : lsL w P b i) (hi : i < 2 ^ P - 1) (hn : popc 9 i < popc 9 b) (hu : unU w i P = 2 ^ P - 1) : lsL w P i (i + 1) := by
  refine ⟨Or.inr ⟨hi, by omega, hu⟩, fun s hs hsi hus => ?_⟩
  by_cases e : s = i
  · subst e; exact Or.inr ⟨rfl, Nat.le_refl _⟩
  · have := h.2 s hs (by omega) hus; omega
/-- the best of the sets from i on -/
def lsG (w : Nat → Nat) (P b i : Nat) : Prop := (b = 2 ^ P - 1 ∨ (b < 2 ^ P - 1 ∧ i ≤ b ∧ unU w b P = 2 ^ P - 1)) ∧ ∀ s, s < 2 ^ P - 1 → i ≤ s → unU w s P = 2 ^ P - 1 → popc 9 b < popc 9 s ∨ (popc 9 b = popc 9 s ∧ b ≤ s)
theorem lsG.skip {w : Nat → Nat} {P b i : Nat} (h : lsG w P b (i + 1)) (hn : popc 9 b < popc 9 i ∨ ¬ unU w i P = 2 ^ P - 1) : lsG w P b i := by
  refine ⟨h.1.imp id (fun g => ⟨g.1, by omega, g.2.2⟩), fun s hs hsi hu => ?_⟩
  by_cases e : s = i
  · subst e
    rcases hn with hn | hn
    · exact Or.inl hn
    · exact absurd hu hn
  · exact h.2 s hs (by omega) hu
theorem lsG.take {w : Nat → Nat} {P b i : Nat} (h : lsG w P b (i + 1)) (hi : i ≤ 2 ^ P - 1) (hn : popc 9 i ≤ popc 9 b) (hu : unU w i P = 2 ^ P - 1) : lsG w P i i := by
  refine ⟨?_, fun s hs hsi hus => ?_⟩
  · by_cases e : i = 2 ^ P - 1
    · exact Or.inl e
    · exact Or.inr ⟨by omega, Nat.le_refl _, hu⟩
  · by_cases e : s = i
    · subst e; exact Or.inr ⟨rfl, Nat.le_refl _⟩
    · have := h.2 s hs (by omega) hus; omega
theorem s_97 {X : Nat × (Nat → Int32)} {d : Nat} {p : Nat → Nat} {sg : Mg} {B : Nat} {S : Nat → Int32} (hI : Inv B S) (hL : cwL 250 sg S) (hD : cwD 200 sg S) (hW : LW S sg) {n : Nat} (hn : n ≤ 200) : gF X (d + 10) 97 [vR 8, vI (nI n)] p sg (fun r => ∃ s, WY sg s ∧ r = gRv p s (nI (lsV (wnF S n) (sn S 1)))) := by
  have b1 := hI.b1; have b8 := hI.b8
  have p8 := pw8 (sn S 1) (by omega)
  have p1 : 1 ≤ 2 ^ sn S 1 := Nat.one_le_two_pow
  refine g_in (cd := k_97) (nL := 6) (rc := 10) rfl (g_A (a := 8) (kd := 0) (n := 9) rfl (by decide)) (g_c1 rfl) (b_97_0 hI hL hD hW hn (fun s1 h1 => ?_))
  rw [hI.c1, nI_shl1 (by omega), show nI (2 ^ sn S 1) - 1 = nI (2 ^ sn S 1 - 1) from nI_sub (b := 1) p1]
  have wl : ∀ p0, wnF S n p0 < 256 := fun p0 => bset_up (m := 8) (by omega)
  have key := g_upI (P := fun j => ∀ s z5, WY sg s → bOK S s → wrM 13 j s (wnF S n) → gW X (d + 9) k_97 16 [some (vR 8), some (vI (nI n)), some (vI (nI (sn S 1))), some (vI (nI (2 ^ sn S 1 - 1))), some (vI (nI j)), z5] [] p s (fun r => ∃ s, WY sg s ∧ r = gRv p s (nI (lsV (wnF S n) (sn S 1))))) (I := fun _ => True) (n := sn S 1) (a := 0) (by omega) trivial ?_ ?_
  · exact key s1 none (WY.bg h1) h1.2 (fun u hu => absurd hu (Nat.not_lt_zero _))
  · intro j _ hj _ ih s z5 hs hB hM
    refine b_97_16 hI (hs.L hL) (hs.D hD) (hs.W hW) hB hn (by omega) (by omega) hj (fun s2 h2 s3 e3 => ?_)
    refine ih trivial s3 z5 ((hs.tr h2.1).tr (fun c c1 _ _ _ => by rw [e3, mu_ne (by omega)])) (by rw [e3]; exact h2.2.1.out (by decide)) (fun u hu => ⟨?_, wl u⟩)
    by_cases e : u = j
    · subst e; rw [e3, mu_self]; rfl
    · rw [e3, mu_idx e, h2.2.2]; exact (hM u (by omega)).1
  · intro _ s z5 hs hB hM
    refine b_97_16e hI (hs.L hL) (hs.D hD) hn (by omega) (by omega) ?_
    have key := g_upI (P := fun j => ∀ b, b < 2 ^ sn S 1 → lsL (wnF S n) (sn S 1) b j → gW X (d + 9) k_97 37 [some (vR 8), some (vI (nI n)), some (vI (nI (sn S 1))), some (vI (nI (2 ^ sn S 1 - 1))), some (vI (nI b)), some (vI (nI j))] [] p s (fun r => ∃ s, WY sg s ∧ r = gRv p s (nI (lsV (wnF S n) (sn S 1))))) (I := fun _ => True) (n := 2 ^ sn S 1 - 1) (a := 0) (by omega) trivial ?_ ?_
    · exact key _ (by omega) ⟨Or.inl rfl, fun s _ hs => absurd hs (Nat.not_lt_zero _)⟩
    · intro j _ hj _ ih b hb hl
      have ih := ih trivial
      refine b_97_37 hI (hs.L hL) (hs.D hD) hM (by omega) (by omega) (by omega) (fun h => by omega) (fun _ h => ih b hb (hl.skip (by omega) hj (Or.inl ((bc_le (by omega) (by omega)).mp h)))) (fun _ h h2 => ih b hb (hl.skip (by omega) hj (Or.inr h2))) (fun _ h h2 => ih j (by omega) (hl.take hj ?_ h2))
      exact Nat.lt_of_not_le (fun g => h ((bc_le (by omega) (by omega)).mpr g))
    · intro _ b hb hl
      refine b_97_37 hI (hs.L hL) (hs.D hD) hM (by omega) (by omega) (by omega) (fun _ => ⟨s, hs, ?_⟩) (fun h => by omega) (fun h => by omega) (fun h => by omega)
      rw [lsV_eq (by omega) (b := b) ⟨hl.1.imp id (fun g => ⟨g.1, g.2.2⟩), fun s hs hu => hl.2 s hs hs hu⟩]
theorem c_least {X : Nat × (Nat → Int32)} {d : Nat} {p : Nat → Nat} {sg : Mg} {B : Nat} {A : AS} (hI : RI B A) (hR : RC A p sg) {x : Int32} : gF X (d + 11) 165 [vR 0, vI x] p sg (cR A A (fun _ => 0) (leastR A.S x) sg) := by
  refine g_in (cd := k_165) (nL := 2) (rc := 12) rfl (g_A (a := 0) (kd := 0) (n := 11) rfl (by decide)) (g_c1 rfl) (b_165_0 hI.1 hR.2.1.1 hR.2.1.2.1 (fun n en hn => ?_) (fun h => ?_))
  · subst en
    refine g_pure 3 (i' := 7) (lv' := [some (vR 0), some (vI (nI n))]) (st' := [vI (nI n), vR 8]) rfl ?_
    refine g_cV1E rfl (args := [vR 8, vI (nI n)]) (rest := []) rfl rfl rfl (s_97 (d := d) hI.1 hR.2.1.1 hR.2.1.2.1 (hR.W hI) hn.2) (fun s h9 => ?_)
    refine g_iret rfl (cR_v (hR.wy hI h9) (fun c hc => h9 c (by omega) (by omega) (by omega) (by omega)) ?_)
    unfold leastR
    rw [if_pos ((okr_nI (by omega) (by omega) (by omega)).mpr hn), nI_clamp (by omega)]
  · refine cR_x hR (fun _ _ => rfl) (c := 0) ?_ rfl
    unfold leastR
    rw [if_neg (show ¬ okr x 0 200 from h)]
theorem l_287_50 {X : Nat × (Nat → Int32)} {d : Nat} {p : Nat → Nat} {sg : Mg} {B : Nat} {S : Nat → Int32} (hI : Inv B S) (hS : sg 801 = S) {Q : am_R → Prop} {w : Nat → Nat} {a b q : Nat} (ha : a < 256) (hb : b < 256) (hq : q < 256) (hM : wrM 813 (sn S 1) sg w) {z1 : Option AV}
    (x1 : ∀ z5 z6, ¬ unU w q (sn S 1) = a → gW X (d + 11) k_287 44 [some (vR 800), z1, some (vI (nI a)), some (vI (nI b)), some (vI (nI q + -1)), z5, z6] [] p sg Q)
    (x2 : ∀ z5 z6, unU w q (sn S 1) = a → popc 9 b < popc 9 q → gW X (d + 11) k_287 44 [some (vR 800), z1, some (vI (nI a)), some (vI (nI b)), some (vI (nI q + -1)), z5, z6] [] p sg Q)
    (x3 : ∀ z5 z6, unU w q (sn S 1) = a → popc 9 q ≤ popc 9 b → gW X (d + 11) k_287 44 [some (vR 800), z1, some (vI (nI a)), some (vI (nI q)), some (vI (nI q + -1)), z5, z6] [] p sg Q) :
    gW X (d + 11) k_287 50 [some (vR 800), z1, some (vI (nI a)), some (vI (nI b)), some (vI (nI q)), some (vI (nI 0)), some (vI (nI 0))] [] p sg Q := by
  have b1 := hI.b1
  have ul := unU_lt (q := q) (fun j hj => (hM j hj).2)
  have key := g_upI (P := fun j => gW X (d + 11) k_287 50 [some (vR 800), z1, some (vI (nI a)), some (vI (nI b)), some (vI (nI q)), some (vI (nI (unU w q j))), some (vI (nI j))] [] p sg Q) (I := fun _ => True) (n := sn S 1) (a := 0) (by omega) trivial ?_ ?_
  · exact key
  · intro j _ hj _ ih
    have ih := ih trivial
    have m := hM j hj
    have u1 := ul j (by omega)
    have e : unU w q (j + 1) = if q.testBit j = true then unU w q j ||| w j else unU w q j := rfl
    rw [e] at ih
    refine b_287_50 hI hS (by omega) (by omega) (by omega) (by omega) (by omega) (by omega) hj m.1 (fun h => ?_) (fun h => ?_)
    · rw [nI_bit1 (by omega) (by omega)] at h
      rw [if_neg h] at ih
      rw [show nI (unU w q j) ||| 0 = nI (unU w q j) by simp]
      exact ih
    · rw [nI_bit1 (by omega) (by omega)] at h
      rw [if_pos h] at ih
      rw [nI_or]
      exact ih
  · intro _
    have u1 := ul (sn S 1) (Nat.le_refl _)
    refine b_287_50e hI hS (by omega) (by omega) (by omega) (by omega) (by omega) (fun h => x1 _ _ h) (fun h h2 => x2 _ _ h ((bc_lt hb hq).mp h2)) (fun h h2 => x3 _ _ h ?_)
    exact Nat.le_of_not_lt (fun g => h2 ((bc_lt hb hq).mpr g))
theorem m_least {X : Nat × (Nat → Int32)} {d : Nat} {p : Nat → Nat} {sg : Mg} {B : Nat} {A : AS} (hI : RI B A) (hR : RM A sg) {x : Int32} : gF X (d + 12) 287 [vR 800, vI x] p sg (mR A A (leastR A.S x) p sg) := by
  have b1 := hI.1.b1; have b8 := hI.1.b8
  have p8 := pw8 (sn A.S 1) (by omega)
  have p1 : 1 ≤ 2 ^ sn A.S 1 := Nat.one_le_two_pow
  refine g_in (cd := k_287) (nL := 7) (rc := 13) rfl (g_A (a := 800) (kd := 0) (n := 12) rfl (by decide)) (g_c1 rfl) (b_287_0 hI.1 hR.1 (fun s1 f1 n en hn => ?_) (fun s1 f1 h s3 f3 => ?_))
  · subst en
    have hR1 := hR.th f1
    have wl : ∀ p0, wnF A.S n p0 < 256 := fun p0 => bset_up (m := 8) (by omega)
    refine g_pure 2 (i' := 19) (lv' := [some (vR 800), some (vI (nI n)), some (vI (nI 0)), none, none, none, none]) (st' := []) rfl ?_
    have key := g_upI (P := fun j => ∀ s, (∀ c, c ≠ 807 → c ≠ 809 → c ≠ 812 → c ≠ 813 → s c = s1 c) → wrM 813 j s (wnF A.S n) → gW X (d + 11) k_287 19 [some (vR 800), some (vI (nI n)), some (vI (nI j)), none, none, none, none] [] p s (mR A A (leastR A.S (nI n)) p sg)) (I := fun _ => True) (n := sn A.S 1) (a := 0) (by omega) trivial ?_ ?_
    · exact key s1 (fun _ _ _ _ _ => rfl) (fun u hu => absurd hu (Nat.not_lt_zero _))
    · intro j _ hj _ ih s hs hM
      have hS : s 801 = A.S := by rw [hs 801 (by decide) (by decide) (by decide) (by decide)]; exact hR1.1
      refine b_287_19 hI.1 hS hI.2.2.1 hn.2 (by omega) hj (fun s2 h2 s3 e3 => ?_)
      refine ih trivial s3 (fun c c1 c2 c3 c4 => by rw [e3, mu_ne c4, h2 c c1 c2 c3, hs c c1 c2 c3 c4]) (fun u hu => ⟨?_, wl u⟩)
      by_cases e : u = j
      · subst e; rw [e3, mu_self]; rfl
      · rw [e3, mu_idx e, h2 813 (by decide) (by decide) (by decide)]; exact (hM u (by omega)).1
    · intro _ s hs hM
      have hS : s 801 = A.S := by rw [hs 801 (by decide) (by decide) (by decide) (by decide)]; exact hR1.1
      have hRs : RM A s := hR1.sr (fun c c1 c2 c3 c4 c5 => hs c c1 (by omega) (by omega) (by omega))
      refine b_287_19e hI.1 hS hn.2 (by omega) ?_
      refine g_pure 2 (i' := 35) (lv' := [some (vR 800), some (vI (nI n)), some (vI (nI (sn A.S 1))), none, none, none, none]) (st' := [vR 800, vI 1]) rfl ?_
      refine g_cV1 rfl (args := [vR 800]) (rest := [vI 1]) rfl rfl rfl (s_203 (d := d + 10) hS) ?_
      have eA : (1 : Int32) <<< (A.S 1 &&& 31) - 1 = nI (2 ^ sn A.S 1 - 1) := by rw [hI.1.c1, nI_shl1 (by omega)]; exact nI_sub (b := 1) p1
      refine g_pure 8 (i' := 44) (lv' := [some (vR 800), some (vI (nI n)), some (vI ((1 : Int32) <<< (A.S 1 &&& 31) - 1)), some (vI ((1 : Int32) <<< (A.S 1 &&& 31) - 1)), some (vI ((1 : Int32) <<< (A.S 1 &&& 31) - 1)), none, none]) (st' := []) rfl ?_
      rw [eA]
      have key := g_upI (P := fun i => ∀ b z5 z6, b < 2 ^ sn A.S 1 → lsG (wnF A.S n) (sn A.S 1) b (2 ^ sn A.S 1 - i) → gW X (d + 11) k_287 44 [some (vR 800), some (vI (nI n)), some (vI (nI (2 ^ sn A.S 1 - 1))), some (vI (nI b)), some (vI (nI (2 ^ sn A.S 1 - i) - 1)), z5, z6] [] p s (mR A A (leastR A.S (nI n)) p sg)) (I := fun _ => True) (n := 2 ^ sn A.S 1) (a := 0) (by omega) trivial ?_ ?_
      · have := key (2 ^ sn A.S 1 - 1) none none (by omega) ⟨Or.inl rfl, fun s hs hs2 => by omega⟩
        rw [Nat.sub_zero, show nI (2 ^ sn A.S 1) - 1 = nI (2 ^ sn A.S 1 - 1) from nI_sub (b := 1) p1] at this
        exact this
      · intro i _ hi _ ih b z5 z6 hb hl
        have ih := ih trivial
        have eq1 : 2 ^ sn A.S 1 - i = (2 ^ sn A.S 1 - (i + 1)) + 1 := by omega
        rw [show nI (2 ^ sn A.S 1 - i) - 1 = nI (2 ^ sn A.S 1 - (i + 1)) by rw [show (1 : Int32) = nI 1 from rfl, nI_sub (by omega)]; congr 1]
        rw [eq1] at hl
        refine b_287_44 hI.1 hS (by omega) (by omega) (by omega) ?_
        have em : nI (2 ^ sn A.S 1 - (i + 1)) + -1 = nI (2 ^ sn A.S 1 - (i + 1)) - 1 := (Int32.sub_eq_add_neg _ _).symm
        refine l_287_50 hI.1 hS (by omega) (by omega) (by omega) hM (fun z5 z6 h => ?_) (fun z5 z6 h h2 => ?_) (fun z5 z6 h h2 => ?_)
        · rw [em]; exact ih b z5 z6 hb (hl.skip (Or.inr h))
        · rw [em]; exact ih b z5 z6 hb (hl.skip (Or.inl h2))
        · rw [em]; exact ih _ z5 z6 (by omega) (hl.take (by omega) h2 h)
      · intro _ b z5 z6 hb hl
        rw [Nat.sub_self] at hl ⊢
        refine b_287_44e hI.1 hS (by omega) (by omega) (mR_v hRs (fun c hc => by rw [hs c (by omega) (by omega) (by omega) (by omega), f1, up_hi hc]) (by rw [hs 800 (by decide) (by decide) (by decide) (by decide), f1, mu_self]) ?_)
        unfold leastR
        rw [if_pos ((okr_nI (by omega) (by omega) (by omega)).mpr hn), nI_clamp (by omega), lsV_eq (by omega) (b := b) ⟨hl.1.imp id (fun g => ⟨g.1, g.2.2⟩), fun s hs hu => hl.2 s hs (Nat.zero_le _) hu⟩]
  · refine mR_x ((hR.th f1).th f3) (fun c hc => by rw [f3, f1, up_hi hc, up_hi hc]) (c := 0) (by rw [f3, mu_self]) ?_
    unfold leastR
    rw [if_neg (show ¬ okr x 0 200 from h)]
