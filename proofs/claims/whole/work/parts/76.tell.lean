/-! TELL, DAWNS (made by wip/whole/gen76.py) -/
def tellR (S : Nat → Int32) (x y : Int32) : Nat × Int32 := if okx x (sn S 1) then (if okx y (sn S 2) then (0, if (sn S (113 + 6 * x.toNatClampNeg + 5)).testBit y.toNatClampNeg = true then 0 else 1) else (1, 0)) else (1, 0)
theorem lr_inv {B : Nat} {A : AS} (hI : RI B A) {k f b : Nat} (hk : k < sn A.S 1) (hf : f ≤ 7) : Inv B (lrS A.S k f b) ∧ Str (lrS A.S k f b) ∧ kpL A.S (lrS A.S k f b) := by
  have b1 := hI.1.b1
  refine ⟨hI.1.lr hk hf, fun k' hk' hw' => ?_, fun i hi => lrS_ne (by unfold lifeN noLand at hi; omega)⟩
  rw [sn_eq (lrS_ne (by omega))] at hk'
  rw [lrS_ne (by omega)] at hw'
  rw [sn_eq (lrS_ne (by omega)), sn_eq (S := A.S) (i := 113 + 6 * k' + 2) (lrS_ne (by omega))]
  exact hI.2.1 k' hk' hw'

theorem b_157_0 {X : Nat × (Nat → Int32)} {d : Nat} {p : Nat → Nat} {sg : Mg} {Q : am_R → Prop} {B : Nat} {S : Nat → Int32} (hI : Inv B S) (hL : cwL 250 sg S) (hD : cwD 200 sg S) {x : Int32} {y : Int32}
    (o1 : ∀ n2 : Nat, x = nI n2 → n2 < sn S 1 → ∀ n4 : Nat, y = nI n4 → n4 < sn S 2 → gW X (d + 6) k_157 8 [some (vR 0), some (vI (nI n2)), some (vI (nI n4))] [] p sg Q)
    (o2 : ∀ n2 : Nat, x = nI n2 → n2 < sn S 1 → (¬ okx y (sn S 2)) → Q (gRx p sg 2))
    (o3 : (¬ okx x (sn S 1)) → Q (gRx p sg 2)) :
    gW X (d + 6) k_157 0 [some (vR 0), some (vI x), some (vI y)] [] p sg Q := by
  have b0 := hI.b0; have b1 := hI.b1; have b2 := hI.b2; have b3 := hI.b3; have b4 := hI.b4; have b5 := hI.b5; have b6 := hI.b6; have b7 := hI.b7; have b8 := hI.b8; have b9 := hI.b9; have b14 := hI.b14
  refine g_pure 3 (i' := 3) (lv' := [some (vR 0), some (vI x), some (vI y)]) (st' := [vI x, vI 1, vR 0]) rfl ?_
  by_cases h1 : okx x (sn S 1)
  · obtain ⟨n2, ln2, en2⟩ := okx_of h1
    subst en2
    refine gW_eq (st' := [vI (nI n2), vI (nI 1), vR 0]) rfl (by rw [(show (1 : Int32) = nI 1 from rfl)]) rfl ?_
    refine g_cV0 rfl (args := [vR 0, vI (nI 1), vI (nI n2)]) (rest := []) rfl rfl rfl (s_140o (d := d + 4) hI hL hD (by omega) ((okx_nI (by omega)).mpr (by omega))) ?_
    refine g_pure 3 (i' := 7) (lv' := [some (vR 0), some (vI (nI n2)), some (vI y)]) (st' := [vI y, vI 2, vR 0]) rfl ?_
    by_cases h3 : okx y (sn S 2)
    · obtain ⟨n4, ln4, en4⟩ := okx_of h3
      subst en4
      refine gW_eq (st' := [vI (nI n4), vI (nI 2), vR 0]) rfl (by rw [(show (2 : Int32) = nI 2 from rfl)]) rfl ?_
      refine g_cV0 rfl (args := [vR 0, vI (nI 2), vI (nI n4)]) (rest := []) rfl rfl rfl (s_140o (d := d + 4) hI hL hD (by omega) ((okx_nI (by omega)).mpr (by omega))) ?_
      exact o1 n2 rfl ln2 n4 rfl ln4
    · refine gW_eq (st' := [vI y, vI (nI 2), vR 0]) rfl (by rw [(show (2 : Int32) = nI 2 from rfl)]) rfl ?_
      refine g_cVx rfl (args := [vR 0, vI (nI 2), vI y]) (rest := []) rfl rfl rfl (s_140x (d := d + 4) hI hL hD (by omega) (by assumption)) ?_
      exact o2 n2 rfl ln2 h3
  · refine gW_eq (st' := [vI x, vI (nI 1), vR 0]) rfl (by rw [(show (1 : Int32) = nI 1 from rfl)]) rfl ?_
    refine g_cVx rfl (args := [vR 0, vI (nI 1), vI x]) (rest := []) rfl rfl rfl (s_140x (d := d + 4) hI hL hD (by omega) (by assumption)) ?_
    exact o3 h1

theorem b_260_0 {X : Nat × (Nat → Int32)} {d : Nat} {p : Nat → Nat} {sg : Mg} {Q : am_R → Prop} {B : Nat} {S : Nat → Int32} (hI : Inv B S) (hS : sg 801 = S) {x : Int32} {y : Int32}
    (o1 : ∀ s1 : Mg, s1 = mu sg 800 0 0 → (¬ okx x (sn S 1)) → ∀ s3 : Mg, s3 = mu s1 800 0 (nI 1) → Q (gRv p s3 0))
    (o2 : ∀ s1 : Mg, s1 = mu sg 800 0 0 → ∀ n5 : Nat, x = nI n5 → n5 < sn S 1 → ∀ n7 : Nat, y = nI n7 → n7 < sn S 2 → gW X (d + 6) k_260 24 [some (vR 800), some (vI (nI n5)), some (vI (nI n7))] [] p s1 Q)
    (o3 : ∀ s1 : Mg, s1 = mu sg 800 0 0 → ∀ n5 : Nat, x = nI n5 → n5 < sn S 1 → (¬ okx y (sn S 2)) → ∀ s9 : Mg, s9 = mu s1 800 0 (nI 1) → Q (gRv p s9 0)) :
    gW X (d + 6) k_260 0 [some (vR 800), some (vI x), some (vI y)] [] p sg Q := by
  have b0 := hI.b0; have b1 := hI.b1; have b2 := hI.b2; have b3 := hI.b3; have b4 := hI.b4; have b5 := hI.b5; have b6 := hI.b6; have b7 := hI.b7; have b8 := hI.b8; have b9 := hI.b9; have b14 := hI.b14
  refine g_pure 2 (i' := 2) (lv' := [some (vR 800), some (vI x), some (vI y)]) (st' := [vI 0, vR 800]) rfl ?_
  refine g_putI rfl (g_A (a := 800) (kd := 0) (n := 12) rfl (by decide)) ?_
  refine g_setv (fun s1 es1 => ?_)
  have hSs1 : s1 801 = S := by rw [es1, mu_ne (by decide), hS]
  refine g_pure 3 (i' := 6) (lv' := [some (vR 800), some (vI x), some (vI y)]) (st' := [vI x, vR 800, vR 800]) rfl ?_
  refine g_cV1 rfl (args := [vR 800, vI x]) (rest := [vR 800]) rfl rfl rfl (s_237 (d := d + 4) hI hSs1) ?_
  refine g_if1 (i' := 16) (P := ¬ okx x (sn S 1)) rfl rfl g_neB (fun h2 => ?_) (fun h2 => ?_)
  · refine g_pure 3 (i' := 20) (lv' := [some (vR 800), some (vI x), some (vI y)]) (st' := [vI 1, vI 1, vR 800]) rfl ?_
    refine gW_eq (st' := [vI (nI 1), vI 1, vR 800]) rfl (by rw [(show (1 : Int32) = nI 1 from rfl)]) rfl ?_
    refine g_cV1 rfl (args := [vR 800, vI 1, vI (nI 1)]) (rest := []) rfl rfl rfl (s_227t (d := d + 5) (by omega)) ?_
    refine g_setv (fun s3 es3 => ?_)
    have hSs3 : s3 801 = S := by rw [es3, mu_ne (by decide), hSs1]
    refine g_if1 (i' := 24) (P := 1 = 0) rfl rfl (g_eqN (show 1 = nI 1 from (show (1 : Int32) = nI 1 from rfl)) (show 0 = nI 0 from (show (0 : Int32) = nI 0 from rfl)) (by omega) (by omega)) (fun h4 => absurd h4 (by omega)) (fun _ => ?_)
    refine g_pure 1 (i' := 23) (lv' := [some (vR 800), some (vI x), some (vI y)]) (st' := [vI 0]) rfl ?_
    refine g_bret rfl g_nar0 ?_
    exact o1 s1 es1 h2 s3 es3
  · have h2 := Classical.not_not.mp h2
    obtain ⟨n5, ln5, en5⟩ := okx_of h2
    subst en5
    refine g_pure 3 (i' := 11) (lv' := [some (vR 800), some (vI (nI n5)), some (vI y)]) (st' := [vR 800, vI 0, vI y, vR 800]) rfl ?_
    refine g_cV1 rfl (args := [vR 800]) (rest := [vI 0, vI y, vR 800]) rfl rfl rfl (s_207 (d := d + 5) hSs1) ?_
    refine g_pure 1 (i' := 13) (lv' := [some (vR 800), some (vI (nI n5)), some (vI y)]) (st' := [vI 1, vI (S 2), vI 0, vI y, vR 800]) rfl ?_
    refine gW_eq (lv' := [some (vR 800), some (vI (nI n5)), some (vI y)]) (st' := [vI 1, vI (nI (sn S 2)), vI 0, vI y, vR 800]) rfl (by rw [(show S 2 = nI (sn S 2) from (hI.c2))]) rfl ?_
    refine g_pure 1 (i' := 14) (lv' := [some (vR 800), some (vI (nI n5)), some (vI y)]) (st' := [vI (nI (sn S 2) - 1), vI 0, vI y, vR 800]) rfl ?_
    refine g_cS1 rfl (args := [vI y, vI 0, vI (nI (sn S 2) - 1)]) (rest := [vR 800]) rfl rfl rfl (s_231x (d := d + 5) (by omega)) ?_
    refine g_if1 (i' := 18) (P := okx y (sn S 2)) rfl rfl g_neB (fun h6 => ?_) (fun h6 => ?_)
    · obtain ⟨n7, ln7, en7⟩ := okx_of h6
      subst en7
      refine g_pure 2 (i' := 20) (lv' := [some (vR 800), some (vI (nI n5)), some (vI (nI n7))]) (st' := [vI 1, vI 0, vR 800]) rfl ?_
      refine gW_eq (st' := [vI (nI 1), vI 0, vR 800]) rfl (by rw [(show (1 : Int32) = nI 1 from rfl)]) rfl ?_
      refine g_cV1 rfl (args := [vR 800, vI 0, vI (nI 1)]) (rest := []) rfl rfl rfl (s_227f (d := d + 5) (by omega)) ?_
      refine g_if1 (i' := 24) (P := 0 = 0) rfl rfl (g_eqN (show 0 = nI 0 from (show (0 : Int32) = nI 0 from rfl)) (show 0 = nI 0 from (show (0 : Int32) = nI 0 from rfl)) (by omega) (by omega)) (fun _ => ?_) (fun h8 => absurd (by omega) h8)
      exact o2 s1 es1 n5 rfl ln5 n7 rfl ln7
    · refine g_pure 3 (i' := 20) (lv' := [some (vR 800), some (vI (nI n5)), some (vI y)]) (st' := [vI 1, vI 1, vR 800]) rfl ?_
      refine gW_eq (st' := [vI (nI 1), vI 1, vR 800]) rfl (by rw [(show (1 : Int32) = nI 1 from rfl)]) rfl ?_
      refine g_cV1 rfl (args := [vR 800, vI 1, vI (nI 1)]) (rest := []) rfl rfl rfl (s_227t (d := d + 5) (by omega)) ?_
      refine g_setv (fun s9 es9 => ?_)
      have hSs9 : s9 801 = S := by rw [es9, mu_ne (by decide), hSs1]
      refine g_if1 (i' := 24) (P := 1 = 0) rfl rfl (g_eqN (show 1 = nI 1 from (show (1 : Int32) = nI 1 from rfl)) (show 0 = nI 0 from (show (0 : Int32) = nI 0 from rfl)) (by omega) (by omega)) (fun h10 => absurd h10 (by omega)) (fun _ => ?_)
      refine g_pure 1 (i' := 23) (lv' := [some (vR 800), some (vI (nI n5)), some (vI y)]) (st' := [vI 0]) rfl ?_
      refine g_bret rfl g_nar0 ?_
      exact o3 s1 es1 n5 rfl ln5 h6 s9 es9

theorem c_tell {X : Nat × (Nat → Int32)} {d : Nat} {p : Nat → Nat} {sg : Mg} {B : Nat} {A : AS} (hI : RI B A) (hR : RC A p sg) {x y : Int32} : gF X (d + 7) 157 [vR 0, vI x, vI y] p sg (cR A (A.act (lrS A.S x.toNatClampNeg y.toNatClampNeg 8)) (fun _ => 2) (tellR A.S x y) sg) := by
  have b0 := hI.1.b0; have b1 := hI.1.b1; have b2 := hI.1.b2
  refine g_in (cd := k_157) (nL := 3) (rc := 12) rfl (g_A (a := 0) (kd := 0) (n := 11) rfl (by decide)) (g_c1 rfl) (b_157_0 hI.1 hR.2.1.1 hR.2.1.2.1 (fun k ek hk t et ht => ?_) (fun k ek hk h => ?_) (fun h => ?_))
  · subst ek et
    have hcv : tellR A.S (nI k) (nI t) = (0, if (sn A.S (113 + 6 * k + 5)).testBit t = true then 0 else 1) := by
      unfold tellR
      rw [if_pos ((okx_nI (by omega)).mpr (by omega)), if_pos ((okx_nI (by omega)).mpr (by omega)), nI_clamp (by omega), nI_clamp (by omega)]
    rw [hcv]
    simp (disch := omega) only [nI_clamp]
    obtain ⟨i1, i2, i3⟩ := lr_inv hI (b := 8) hk (show t ≤ 7 by omega)
    refine g_pure 1 (i' := 9) (lv' := [some (vR 0), some (vI (nI k)), some (vI (nI t))]) (st' := [vR 0]) rfl ?_
    refine g_calV rfl (args := [vR 0]) (rest := []) rfl rfl (Nat.zero_le _) (s_153r (d := d + 1) hI hR) (fun q hq => ?_)
    obtain ⟨s5, h5, rfl⟩ := hq
    refine gK_0 ?_
    refine g_pure 6 (i' := 16) (lv' := [some (vR 0), some (vI (nI k)), some (vI (nI t))]) (st' := [vI 8, vI (nI t), vI (nI k), vR 250]) rfl ?_
    refine gW_eq (st' := [vI (nI 8), vI (nI t), vI (nI k), vR 250]) rfl rfl rfl ?_
    refine g_cV1E rfl (args := [vR 250, vI (nI k), vI (nI t), vI (nI 8)]) (rest := []) rfl rfl rfl (s_57 (d := d + 4) hI.1 (h5.L hI hR) (h5.D hI hR) hk (by omega) (by omega)) (fun s6 g6 => ?_)
    refine g_bret rfl ?_ ?_
    · split <;> decide +kernel
    · exact h5.act hI hR (fun c' c1 c2 c3 c4 c5 => g6.1 c' (by omega) (by omega) (by omega)) ⟨g6.2.1, g6.2.2⟩ i3 (fun _ _ => rfl)
  · subst ek
    refine cR_x hR (fun _ _ => rfl) (c := 0) ?_ rfl
    unfold tellR
    rw [if_pos ((okx_nI (by omega)).mpr (by omega)), if_neg h]
  · refine cR_x hR (fun _ _ => rfl) (c := 0) ?_ rfl
    unfold tellR
    rw [if_neg h]
theorem m_tell {X : Nat × (Nat → Int32)} {d : Nat} {p : Nat → Nat} {sg : Mg} {B : Nat} {A : AS} (hI : RI B A) (hR : RM A sg) {x y : Int32} : gF X (d + 7) 260 [vR 800, vI x, vI y] p sg (mR A (A.act (lrS A.S x.toNatClampNeg y.toNatClampNeg 8)) (tellR A.S x y) p sg) := by
  have b0 := hI.1.b0; have b1 := hI.1.b1; have b2 := hI.1.b2
  refine g_in (cd := k_260) (nL := 3) (rc := 13) rfl (g_A (a := 800) (kd := 0) (n := 12) rfl (by decide)) (g_c1 rfl) (b_260_0 hI.1 hR.1 (fun s1 f1 h s3 f3 => ?_) (fun s1 f1 k ek hk t et ht => ?_) (fun s1 f1 k ek hk h s3 f3 => ?_))
  · refine mR_x ((hR.th f1).th f3) (fun c hc => by rw [f3, f1, up_hi hc, up_hi hc]) (c := 0) (by rw [f3, mu_self]) ?_
    unfold tellR
    rw [if_neg h]
  · subst ek et
    have hcv : tellR A.S (nI k) (nI t) = (0, if (sn A.S (113 + 6 * k + 5)).testBit t = true then 0 else 1) := by
      unfold tellR
      rw [if_pos ((okx_nI (by omega)).mpr (by omega)), if_pos ((okx_nI (by omega)).mpr (by omega)), nI_clamp (by omega), nI_clamp (by omega)]
    rw [hcv]
    simp (disch := omega) only [nI_clamp]
    have hR1 := hR.th f1
    have hh : ∀ c, c < 800 ∨ 900 ≤ c → s1 c = sg c := fun c hc => by rw [f1, up_hi hc]
    have h0 : s1 800 0 = 0 := by rw [f1, mu_self]
    refine g_pure 1 (i' := 25) (lv' := [some (vR 800), some (vI (nI k)), some (vI (nI t))]) (st' := [vR 800]) rfl ?_
    refine g_calV rfl (args := [vR 800]) (rest := []) rfl rfl (Nat.zero_le _) (s_255r (d := d + 5) hI hR1) (fun q hq => ?_)
    subst hq
    refine gK_0 ?_
    refine g_pure 4 (i' := 30) (lv' := [some (vR 800), some (vI (nI k)), some (vI (nI t))]) (st' := [vI 8, vI (nI t), vI (nI k), vR 800]) rfl ?_
    refine gW_eq (st' := [vI (nI 8), vI (nI t), vI (nI k), vR 800]) rfl rfl rfl ?_
    refine g_calV rfl (args := [vR 800, vI (nI k), vI (nI t), vI (nI 8)]) (rest := []) rfl rfl (Nat.zero_le _) (s_261 (d := d + 4) hI.1 (rmM_S hR1) hk (by omega) (by omega)) (fun q hq => ?_)
    subst hq
    refine gK_v ?_
    refine g_bret rfl ?_ ?_
    · split <;> decide +kernel
    · exact rmM_act hI hR1 (FR.up _ _) (va_up_self _ _ _) hh h0
  · subst ek
    refine mR_x ((hR.th f1).th f3) (fun c hc => by rw [f3, f1, up_hi hc, up_hi hc]) (c := 0) (by rw [f3, mu_self]) ?_
    unfold tellR
    rw [if_pos ((okx_nI (by omega)).mpr (by omega)), if_neg h]
def dawnsR (S : Nat → Int32) (x : Int32) : Nat × Int32 := if okr x 1 200 then (0, nI (dws S x.toNatClampNeg).2) else (1, 0)
theorem dws_kp {B : Nat} {A : AS} (hI : RI B A) {n : Nat} (hB : B + n ≤ 200000) : kpL A.S (dws A.S n).1 := fun i hi => (dws_inv hI.1 hI.2.1 n hB).2.2 i (by unfold lifeN noLand at hi; unfold kqI kpI; omega)

theorem b_158_0 {X : Nat × (Nat → Int32)} {d : Nat} {p : Nat → Nat} {sg : Mg} {Q : am_R → Prop} {B : Nat} {S : Nat → Int32} (hI : Inv B S) (hL : cwL 250 sg S) (hD : cwD 200 sg S) {x : Int32}
    (o1 : ∀ n2 : Nat, x = nI n2 → 1 ≤ n2 ∧ n2 ≤ 200 → gW X (d + 8) k_158 4 [some (vR 0), some (vI (nI n2))] [] p sg Q)
    (o2 : (¬ (¬ (x < 1) ∧ ¬ (200 < x))) → Q (gRx p sg 0)) :
    gW X (d + 8) k_158 0 [some (vR 0), some (vI x)] [] p sg Q := by
  have b0 := hI.b0; have b1 := hI.b1; have b2 := hI.b2; have b3 := hI.b3; have b4 := hI.b4; have b5 := hI.b5; have b6 := hI.b6; have b7 := hI.b7; have b8 := hI.b8; have b9 := hI.b9; have b14 := hI.b14
  refine g_pure 3 (i' := 3) (lv' := [some (vR 0), some (vI x)]) (st' := [vI 200, vI 1, vI x]) rfl ?_
  by_cases h1 : (¬ (x < 1) ∧ ¬ (200 < x))
  · obtain ⟨n2, ln2, en2⟩ := okr_of (lo := 1) (hi := 200) (by decide) h1
    subst en2
    refine g_cS0 rfl (args := [vI (nI n2), vI 1, vI 200]) (rest := []) rfl rfl rfl (s_141o (d := d + 7) (nI_nlt (b := 1) (by omega) (by omega)) (nI_nlt (a := 200) (by omega) (by omega))) ?_
    exact o1 n2 rfl ln2
  · refine g_cSx rfl (args := [vI x, vI 1, vI 200]) (rest := []) rfl rfl rfl (s_141x (d := d + 7) (by assumption)) ?_
    exact o2 h1

theorem b_262_0 {X : Nat × (Nat → Int32)} {d : Nat} {p : Nat → Nat} {sg : Mg} {Q : am_R → Prop} {B : Nat} {S : Nat → Int32} (hI : Inv B S) (hS : sg 801 = S) {x : Int32}
    (o1 : ∀ s1 : Mg, s1 = mu sg 800 0 0 → ∀ n3 : Nat, x = nI n3 → 1 ≤ n3 ∧ n3 ≤ 200 → gW X (d + 8) k_262 17 [some (vR 800), some (vI (nI n3)), none, none] [] p s1 Q)
    (o2 : ∀ s1 : Mg, s1 = mu sg 800 0 0 → (¬ (¬ (x < 1) ∧ ¬ (200 < x))) → ∀ s5 : Mg, s5 = mu s1 800 0 (nI 1) → Q (gRv p s5 0)) :
    gW X (d + 8) k_262 0 [some (vR 800), some (vI x), none, none] [] p sg Q := by
  have b0 := hI.b0; have b1 := hI.b1; have b2 := hI.b2; have b3 := hI.b3; have b4 := hI.b4; have b5 := hI.b5; have b6 := hI.b6; have b7 := hI.b7; have b8 := hI.b8; have b9 := hI.b9; have b14 := hI.b14
  refine g_pure 2 (i' := 2) (lv' := [some (vR 800), some (vI x), none, none]) (st' := [vI 0, vR 800]) rfl ?_
  refine g_putI rfl (g_A (a := 800) (kd := 0) (n := 12) rfl (by decide)) ?_
  refine g_setv (fun s1 es1 => ?_)
  have hSs1 : s1 801 = S := by rw [es1, mu_ne (by decide), hS]
  refine g_pure 4 (i' := 7) (lv' := [some (vR 800), some (vI x), none, none]) (st' := [vI 200, vI 1, vI x, vR 800]) rfl ?_
  refine g_cS1 rfl (args := [vI x, vI 1, vI 200]) (rest := [vR 800]) rfl rfl rfl (s_231 (d := d + 7) ) ?_
  refine g_if1 (i' := 11) (P := (¬ (x < 1) ∧ ¬ (200 < x))) rfl rfl g_neB (fun h2 => ?_) (fun h2 => ?_)
  · obtain ⟨n3, ln3, en3⟩ := okr_of (lo := 1) (hi := 200) (by decide) h2
    subst en3
    refine g_pure 2 (i' := 13) (lv' := [some (vR 800), some (vI (nI n3)), none, none]) (st' := [vI 1, vI 0, vR 800]) rfl ?_
    refine gW_eq (st' := [vI (nI 1), vI 0, vR 800]) rfl (by rw [(show (1 : Int32) = nI 1 from rfl)]) rfl ?_
    refine g_cV1 rfl (args := [vR 800, vI 0, vI (nI 1)]) (rest := []) rfl rfl rfl (s_227f (d := d + 7) (by omega)) ?_
    refine g_if1 (i' := 17) (P := 0 = 0) rfl rfl (g_eqN (show 0 = nI 0 from (show (0 : Int32) = nI 0 from rfl)) (show 0 = nI 0 from (show (0 : Int32) = nI 0 from rfl)) (by omega) (by omega)) (fun _ => ?_) (fun h4 => absurd (by omega) h4)
    exact o1 s1 es1 n3 rfl ln3
  · refine g_pure 3 (i' := 13) (lv' := [some (vR 800), some (vI x), none, none]) (st' := [vI 1, vI 1, vR 800]) rfl ?_
    refine gW_eq (st' := [vI (nI 1), vI 1, vR 800]) rfl (by rw [(show (1 : Int32) = nI 1 from rfl)]) rfl ?_
    refine g_cV1 rfl (args := [vR 800, vI 1, vI (nI 1)]) (rest := []) rfl rfl rfl (s_227t (d := d + 7) (by omega)) ?_
    refine g_setv (fun s5 es5 => ?_)
    have hSs5 : s5 801 = S := by rw [es5, mu_ne (by decide), hSs1]
    refine g_if1 (i' := 17) (P := 1 = 0) rfl rfl (g_eqN (show 1 = nI 1 from (show (1 : Int32) = nI 1 from rfl)) (show 0 = nI 0 from (show (0 : Int32) = nI 0 from rfl)) (by omega) (by omega)) (fun h6 => absurd h6 (by omega)) (fun _ => ?_)
    refine g_pure 1 (i' := 16) (lv' := [some (vR 800), some (vI x), none, none]) (st' := [vI 0]) rfl ?_
    refine g_iret rfl ?_
    exact o2 s1 es1 h2 s5 es5

theorem c_dawns {X : Nat × (Nat → Int32)} {d : Nat} {p : Nat → Nat} {sg : Mg} {B : Nat} {A : AS} (hI : RI B A) (hR : RC A p sg) {x : Int32} (hB : B + 200 ≤ 200000) : gF X (d + 9) 158 [vR 0, vI x] p sg (cR A (A.act (dws A.S x.toNatClampNeg).1) (fun _ => 0) (dawnsR A.S x) sg) := by
  refine g_in (cd := k_158) (nL := 2) (rc := 12) rfl (g_A (a := 0) (kd := 0) (n := 11) rfl (by decide)) (g_c1 rfl) (b_158_0 hI.1 hR.2.1.1 hR.2.1.2.1 (fun n en hn => ?_) (fun h => ?_))
  · subst en
    have hcv : dawnsR A.S (nI n) = (0, nI (dws A.S n).2) := by
      unfold dawnsR
      rw [if_pos ((okr_nI (by omega) (by omega) (by omega)).mpr hn), nI_clamp (by omega)]
    rw [hcv]
    simp (disch := omega) only [nI_clamp]
    refine g_pure 1 (i' := 5) (lv' := [some (vR 0), some (vI (nI n))]) (st' := [vR 0]) rfl ?_
    refine g_calV rfl (args := [vR 0]) (rest := []) rfl rfl (Nat.zero_le _) (s_153r (d := d + 3) hI hR) (fun q hq => ?_)
    obtain ⟨s5, h5, rfl⟩ := hq
    refine gK_0 ?_
    refine g_pure 3 (i' := 9) (lv' := [some (vR 0), some (vI (nI n))]) (st' := [vI (nI n), vR 6]) rfl ?_
    refine g_cV1E rfl (args := [vR 6, vI (nI n)]) (rest := []) rfl rfl rfl (s_24 (d := d) hI.1 (h5.L hI hR) (h5.D hI hR) hI.2.1 (h5.W hI hR) hn.2 (by omega)) (fun s6 g6 => ?_)
    exact g_iret rfl (h5.act hI hR g6.1 g6.2 (dws_kp hI (by omega)) (fun _ _ => rfl))
  · refine cR_x hR (fun _ _ => rfl) (c := 0) ?_ rfl
    unfold dawnsR
    rw [if_neg (show ¬ okr x 1 200 from h)]
theorem l_262_23 {X : Nat × (Nat → Int32)} {d : Nat} {p : Nat → Nat} {sg : Mg} {B : Nat} {S : Nat → Int32} (hI : Inv B S) (hA : InvA S) (hs : Str S) (hS : sg 801 = S) {n : Nat} (hn : n ≤ 200) (hB : B + n ≤ 200000) {Q : am_R → Prop}
    (x : ∀ s, FR sg s → s 801 = (dws S n).1 → Q (gRv p s (nI (dws S n).2))) : gW X (d + 8) k_262 23 [some (vR 800), some (vI (nI n)), some (vI (nI 0)), some (vI (nI 0))] [] p sg Q := by
  have key := g_upI (P := fun k => ∀ s, FR sg s → s 801 = (dws S k).1 → gW X (d + 8) k_262 23 [some (vR 800), some (vI (nI n)), some (vI (nI (dws S k).2)), some (vI (nI k))] [] p s Q) (I := fun _ => True) (n := n) (a := 0) (by omega) trivial ?_ ?_
  · exact key sg (FR.rf _) hS
  · intro k _ hk _ ih s f e
    have ih := ih trivial
    obtain ⟨h1, h2, h3⟩ := dws_inv hI hs k (by omega)
    have a1 : InvA (dws S k).1 := hA.ext (fun i hi => h3 i (dw_k7 hi))
    rw [show dws S (k + 1) = (dw6 (dws S k).1, (dws S k).2 + dwN (dws S k).1) from rfl] at ih
    dsimp only at ih
    generalize dws S k = T at *
    refine g_pure 2 (i' := 25) (lv' := [some (vR 800), some (vI (nI n)), some (vI (nI T.2)), some (vI (nI k))]) (st' := [vI (nI n), vI (nI k)]) rfl ?_
    refine g_if2 (i' := 33) (P := n ≤ k) rfl rfl (g_geN rfl rfl (by omega) (by omega)) (fun h => by omega) (fun _ => ?_)
    refine g_pure 2 (i' := 28) (lv' := [some (vR 800), some (vI (nI n)), some (vI (nI T.2)), some (vI (nI k))]) (st' := [vR 800, vI (nI T.2)]) rfl ?_
    refine g_cV1E rfl (args := [vR 800]) (rest := [vI (nI T.2)]) rfl rfl rfl (s_263 (d := d) h1 e a1 h2 (by omega)) (fun s1 g1 => ?_)
    refine g_pure 4 (i' := 23) (lv' := [some (vR 800), some (vI (nI n)), some (vI (nI T.2 + nI (dwN T.1))), some (vI (nI k + 1))]) (st' := []) rfl ?_
    refine gW_eq (lv' := [some (vR 800), some (vI (nI n)), some (vI (nI (T.2 + dwN T.1))), some (vI (nI (k + 1)))]) (by rw [nI_succ, nI_add]) rfl rfl ?_
    exact ih s1 (f.tr g1.1) g1.2
  · intro _ s f e
    refine g_pure 2 (i' := 25) (lv' := [some (vR 800), some (vI (nI n)), some (vI (nI (dws S n).2)), some (vI (nI n))]) (st' := [vI (nI n), vI (nI n)]) rfl ?_
    refine g_if2 (i' := 33) (P := n ≤ n) rfl rfl (g_geN rfl rfl (by omega) (by omega)) (fun _ => ?_) (fun h => by omega)
    refine g_pure 1 (i' := 34) (lv' := [some (vR 800), some (vI (nI n)), some (vI (nI (dws S n).2)), some (vI (nI n))]) (st' := [vI (nI (dws S n).2)]) rfl ?_
    exact g_iret rfl (x s f e)
theorem m_dawns {X : Nat × (Nat → Int32)} {d : Nat} {p : Nat → Nat} {sg : Mg} {B : Nat} {A : AS} (hI : RI B A) (hR : RM A sg) {x : Int32} (hB : B + 200 ≤ 200000) : gF X (d + 9) 262 [vR 800, vI x] p sg (mR A (A.act (dws A.S x.toNatClampNeg).1) (dawnsR A.S x) p sg) := by
  refine g_in (cd := k_262) (nL := 4) (rc := 13) rfl (g_A (a := 800) (kd := 0) (n := 12) rfl (by decide)) (g_c1 rfl) (b_262_0 hI.1 hR.1 (fun s1 f1 n en hn => ?_) (fun s1 f1 h s3 f3 => ?_))
  · subst en
    have hcv : dawnsR A.S (nI n) = (0, nI (dws A.S n).2) := by
      unfold dawnsR
      rw [if_pos ((okr_nI (by omega) (by omega) (by omega)).mpr hn), nI_clamp (by omega)]
    rw [hcv]
    simp (disch := omega) only [nI_clamp]
    have hR1 := hR.th f1
    have hh : ∀ c, c < 800 ∨ 900 ≤ c → s1 c = sg c := fun c hc => by rw [f1, up_hi hc]
    have h0 : s1 800 0 = 0 := by rw [f1, mu_self]
    refine g_pure 1 (i' := 18) (lv' := [some (vR 800), some (vI (nI n)), none, none]) (st' := [vR 800]) rfl ?_
    refine g_calV rfl (args := [vR 800]) (rest := []) rfl rfl (Nat.zero_le _) (s_255r (d := d + 7) hI hR1) (fun q hq => ?_)
    subst hq
    refine gK_0 ?_
    refine g_pure 4 (i' := 23) (lv' := [some (vR 800), some (vI (nI n)), some (vI (nI 0)), some (vI (nI 0))]) (st' := []) rfl ?_
    exact l_262_23 hI.1 hI.2.2.1 hI.2.1 (rmM_S hR1) hn.2 (by omega) (fun s f e => rmM_act hI hR1 f e hh h0)
  · refine mR_x ((hR.th f1).th f3) (fun c hc => by rw [f3, f1, up_hi hc, up_hi hc]) (c := 0) (by rw [f3, mu_self]) ?_
    unfold dawnsR
    rw [if_neg (show ¬ okr x 1 200 from h)]
