/-! SOONEST, CONE: the calls (made by wip/whole/gen83.py) -/
theorem b_160_0 {X : Nat × (Nat → Int32)} {d : Nat} {p : Nat → Nat} {sg : Mg} {Q : am_R → Prop} {B : Nat} {S : Nat → Int32} (hI : Inv B S) (hL : cwL 250 sg S) (hD : cwD 200 sg S) {x : Int32} {y : Int32} {z : Int32}
    (o1 : ∀ n2 : Nat, x = nI n2 → n2 < sn S 1 → ∀ n4 : Nat, y = nI n4 → n4 < sn S 0 → (z = (-1)) → Q (gR0 p sg))
    (o2 : ∀ n2 : Nat, x = nI n2 → n2 < sn S 1 → ∀ n4 : Nat, y = nI n4 → n4 < sn S 0 → (¬ (z = (-1))) → ∀ n7 : Nat, z = nI n7 → n7 < sn S 9 → Q (gR0 p sg))
    (o3 : ∀ n2 : Nat, x = nI n2 → n2 < sn S 1 → ∀ n4 : Nat, y = nI n4 → n4 < sn S 0 → (¬ (z = (-1))) → (¬ okx z (sn S 9)) → Q (gRx p sg 2))
    (o4 : ∀ n2 : Nat, x = nI n2 → n2 < sn S 1 → (¬ okx y (sn S 0)) → Q (gRx p sg 2))
    (o5 : (¬ okx x (sn S 1)) → Q (gRx p sg 2)) :
    gW X (d + 2) k_160 0 [some (vR 0), some (vI x), some (vI y), some (vI z)] [] p sg Q := by
  have b0 := hI.b0; have b1 := hI.b1; have b2 := hI.b2; have b3 := hI.b3; have b4 := hI.b4; have b5 := hI.b5; have b6 := hI.b6; have b7 := hI.b7; have b8 := hI.b8; have b9 := hI.b9; have b14 := hI.b14
  refine g_pure 3 (i' := 3) (lv' := [some (vR 0), some (vI x), some (vI y), some (vI z)]) (st' := [vI x, vI 1, vR 0]) rfl ?_
  by_cases h1 : okx x (sn S 1)
  · obtain ⟨n2, ln2, en2⟩ := okx_of h1
    subst en2
    refine gW_eq (st' := [vI (nI n2), vI (nI 1), vR 0]) rfl (by rw [(show (1 : Int32) = nI 1 from rfl)]) rfl ?_
    refine g_cV0 rfl (args := [vR 0, vI (nI 1), vI (nI n2)]) (rest := []) rfl rfl rfl (s_140o (d := d) hI hL hD (by omega) ((okx_nI (by omega)).mpr (by omega))) ?_
    refine g_pure 3 (i' := 7) (lv' := [some (vR 0), some (vI (nI n2)), some (vI y), some (vI z)]) (st' := [vI y, vI 0, vR 0]) rfl ?_
    by_cases h3 : okx y (sn S 0)
    · obtain ⟨n4, ln4, en4⟩ := okx_of h3
      subst en4
      refine gW_eq (st' := [vI (nI n4), vI (nI 0), vR 0]) rfl (by rw [(show (0 : Int32) = nI 0 from rfl)]) rfl ?_
      refine g_cV0 rfl (args := [vR 0, vI (nI 0), vI (nI n4)]) (rest := []) rfl rfl rfl (s_140o (d := d) hI hL hD (by omega) ((okx_nI (by omega)).mpr (by omega))) ?_
      refine g_pure 2 (i' := 10) (lv' := [some (vR 0), some (vI (nI n2)), some (vI (nI n4)), some (vI z)]) (st' := [vI (-1), vI z]) rfl ?_
      refine g_if2 (i' := 14) (P := z = (-1)) rfl rfl Iff.rfl (fun h5 => ?_) (fun h5 => ?_)
      · refine g_vret rfl ?_
        exact o1 n2 rfl ln2 n4 rfl ln4 h5
      · refine g_pure 2 (i' := 13) (lv' := [some (vR 0), some (vI (nI n2)), some (vI (nI n4)), some (vI z)]) (st' := [vI z, vR 0]) rfl ?_
        by_cases h6 : okx z (sn S 9)
        · obtain ⟨n7, ln7, en7⟩ := okx_of h6
          subst en7
          refine g_cV0 rfl (args := [vR 0, vI (nI n7)]) (rest := []) rfl rfl rfl (s_143o (d := d + 1) hI hL hD ((okx_nI (by omega)).mpr (by omega))) ?_
          refine g_vret rfl ?_
          exact o2 n2 rfl ln2 n4 rfl ln4 h5 n7 rfl ln7
        · refine g_cVx rfl (args := [vR 0, vI z]) (rest := []) rfl rfl rfl (s_143x (d := d + 1) hI hL hD (by assumption)) ?_
          exact o3 n2 rfl ln2 n4 rfl ln4 h5 h6
    · refine gW_eq (st' := [vI y, vI (nI 0), vR 0]) rfl (by rw [(show (0 : Int32) = nI 0 from rfl)]) rfl ?_
      refine g_cVx rfl (args := [vR 0, vI (nI 0), vI y]) (rest := []) rfl rfl rfl (s_140x (d := d) hI hL hD (by omega) (by assumption)) ?_
      exact o4 n2 rfl ln2 h3
  · refine gW_eq (st' := [vI x, vI (nI 1), vR 0]) rfl (by rw [(show (1 : Int32) = nI 1 from rfl)]) rfl ?_
    refine g_cVx rfl (args := [vR 0, vI (nI 1), vI x]) (rest := []) rfl rfl rfl (s_140x (d := d) hI hL hD (by omega) (by assumption)) ?_
    exact o5 h1

theorem b_271_0 {X : Nat × (Nat → Int32)} {d : Nat} {p : Nat → Nat} {sg : Mg} {Q : am_R → Prop} {B : Nat} {S : Nat → Int32} (hI : Inv B S) (hS : sg 801 = S) {x : Int32} {y : Int32} {z : Int32}
    (o1 : ∀ s1 : Mg, s1 = mu sg 800 0 0 → (¬ okx x (sn S 1)) → ∀ s3 : Mg, s3 = mu s1 800 0 (nI 1) → Q (gRv p s3 0))
    (o2 : ∀ s1 : Mg, s1 = mu sg 800 0 0 → ∀ n5 : Nat, x = nI n5 → n5 < sn S 1 → (¬ okx y (sn S 0)) → ∀ s7 : Mg, s7 = mu s1 800 0 (nI 1) → Q (gRv p s7 0))
    (o3 : ∀ s1 : Mg, s1 = mu sg 800 0 0 → ∀ n5 : Nat, x = nI n5 → n5 < sn S 1 → ∀ n9 : Nat, y = nI n9 → n9 < sn S 0 → (z = (-1)) → gW X (d + 11) k_271 27 [some (vR 800), some (vI (nI n5)), some (vI (nI n9)), some (vI z), none] [] p s1 Q)
    (o4 : ∀ s1 : Mg, s1 = mu sg 800 0 0 → ∀ n5 : Nat, x = nI n5 → n5 < sn S 1 → ∀ n9 : Nat, y = nI n9 → n9 < sn S 0 → (¬ (z = (-1))) → ∀ n13 : Nat, z = nI n13 → n13 < sn S 9 → gW X (d + 11) k_271 27 [some (vR 800), some (vI (nI n5)), some (vI (nI n9)), some (vI (nI n13)), none] [] p s1 Q)
    (o5 : ∀ s1 : Mg, s1 = mu sg 800 0 0 → ∀ n5 : Nat, x = nI n5 → n5 < sn S 1 → ∀ n9 : Nat, y = nI n9 → n9 < sn S 0 → (¬ (z = (-1))) → (¬ okx z (sn S 9)) → ∀ s15 : Mg, s15 = mu s1 800 0 (nI 1) → Q (gRv p s15 0)) :
    gW X (d + 11) k_271 0 [some (vR 800), some (vI x), some (vI y), some (vI z), none] [] p sg Q := by
  have b0 := hI.b0; have b1 := hI.b1; have b2 := hI.b2; have b3 := hI.b3; have b4 := hI.b4; have b5 := hI.b5; have b6 := hI.b6; have b7 := hI.b7; have b8 := hI.b8; have b9 := hI.b9; have b14 := hI.b14
  refine g_pure 2 (i' := 2) (lv' := [some (vR 800), some (vI x), some (vI y), some (vI z), none]) (st' := [vI 0, vR 800]) rfl ?_
  refine g_putI rfl (g_A (a := 800) (kd := 0) (n := 12) rfl (by decide)) ?_
  refine g_setv (fun s1 es1 => ?_)
  have hSs1 : s1 801 = S := by rw [es1, mu_ne (by decide), hS]
  refine g_pure 3 (i' := 6) (lv' := [some (vR 800), some (vI x), some (vI y), some (vI z), none]) (st' := [vI x, vR 800, vR 800]) rfl ?_
  refine g_cV1 rfl (args := [vR 800, vI x]) (rest := [vR 800]) rfl rfl rfl (s_237 (d := d + 9) hI hSs1) ?_
  refine g_if1 (i' := 19) (P := ¬ okx x (sn S 1)) rfl rfl g_neB (fun h2 => ?_) (fun h2 => ?_)
  · refine g_pure 3 (i' := 23) (lv' := [some (vR 800), some (vI x), some (vI y), some (vI z), none]) (st' := [vI 1, vI 1, vR 800]) rfl ?_
    refine gW_eq (st' := [vI (nI 1), vI 1, vR 800]) rfl (by rw [(show (1 : Int32) = nI 1 from rfl)]) rfl ?_
    refine g_cV1 rfl (args := [vR 800, vI 1, vI (nI 1)]) (rest := []) rfl rfl rfl (s_227t (d := d + 10) (by omega)) ?_
    refine g_setv (fun s3 es3 => ?_)
    have hSs3 : s3 801 = S := by rw [es3, mu_ne (by decide), hSs1]
    refine g_if1 (i' := 27) (P := 1 = 0) rfl rfl (g_eqN (show 1 = nI 1 from (show (1 : Int32) = nI 1 from rfl)) (show 0 = nI 0 from (show (0 : Int32) = nI 0 from rfl)) (by omega) (by omega)) (fun h4 => absurd h4 (by omega)) (fun _ => ?_)
    refine g_pure 1 (i' := 26) (lv' := [some (vR 800), some (vI x), some (vI y), some (vI z), none]) (st' := [vI 0]) rfl ?_
    refine g_iret rfl ?_
    exact o1 s1 es1 h2 s3 es3
  · have h2 := Classical.not_not.mp h2
    obtain ⟨n5, ln5, en5⟩ := okx_of h2
    subst en5
    refine g_pure 2 (i' := 10) (lv' := [some (vR 800), some (vI (nI n5)), some (vI y), some (vI z), none]) (st' := [vI y, vR 800, vR 800]) rfl ?_
    refine g_cV1 rfl (args := [vR 800, vI y]) (rest := [vR 800]) rfl rfl rfl (s_230 (d := d + 9) hI hSs1) ?_
    refine g_if1 (i' := 19) (P := ¬ okx y (sn S 0)) rfl rfl g_neB (fun h6 => ?_) (fun h6 => ?_)
    · refine g_pure 3 (i' := 23) (lv' := [some (vR 800), some (vI (nI n5)), some (vI y), some (vI z), none]) (st' := [vI 1, vI 1, vR 800]) rfl ?_
      refine gW_eq (st' := [vI (nI 1), vI 1, vR 800]) rfl (by rw [(show (1 : Int32) = nI 1 from rfl)]) rfl ?_
      refine g_cV1 rfl (args := [vR 800, vI 1, vI (nI 1)]) (rest := []) rfl rfl rfl (s_227t (d := d + 10) (by omega)) ?_
      refine g_setv (fun s7 es7 => ?_)
      have hSs7 : s7 801 = S := by rw [es7, mu_ne (by decide), hSs1]
      refine g_if1 (i' := 27) (P := 1 = 0) rfl rfl (g_eqN (show 1 = nI 1 from (show (1 : Int32) = nI 1 from rfl)) (show 0 = nI 0 from (show (0 : Int32) = nI 0 from rfl)) (by omega) (by omega)) (fun h8 => absurd h8 (by omega)) (fun _ => ?_)
      refine g_pure 1 (i' := 26) (lv' := [some (vR 800), some (vI (nI n5)), some (vI y), some (vI z), none]) (st' := [vI 0]) rfl ?_
      refine g_iret rfl ?_
      exact o2 s1 es1 n5 rfl ln5 h6 s7 es7
    · have h6 := Classical.not_not.mp h6
      obtain ⟨n9, ln9, en9⟩ := okx_of h6
      subst en9
      refine g_pure 2 (i' := 14) (lv' := [some (vR 800), some (vI (nI n5)), some (vI (nI n9)), some (vI z), none]) (st' := [vI (-1), vI z, vR 800]) rfl ?_
      refine g_if2 (i' := 21) (P := z = (-1)) rfl rfl Iff.rfl (fun h10 => ?_) (fun h10 => ?_)
      · refine g_pure 2 (i' := 23) (lv' := [some (vR 800), some (vI (nI n5)), some (vI (nI n9)), some (vI z), none]) (st' := [vI 1, vI 0, vR 800]) rfl ?_
        refine gW_eq (st' := [vI (nI 1), vI 0, vR 800]) rfl (by rw [(show (1 : Int32) = nI 1 from rfl)]) rfl ?_
        refine g_cV1 rfl (args := [vR 800, vI 0, vI (nI 1)]) (rest := []) rfl rfl rfl (s_227f (d := d + 10) (by omega)) ?_
        refine g_if1 (i' := 27) (P := 0 = 0) rfl rfl (g_eqN (show 0 = nI 0 from (show (0 : Int32) = nI 0 from rfl)) (show 0 = nI 0 from (show (0 : Int32) = nI 0 from rfl)) (by omega) (by omega)) (fun _ => ?_) (fun h11 => absurd (by omega) h11)
        exact o3 s1 es1 n5 rfl ln5 n9 rfl ln9 h10
      · refine g_pure 2 (i' := 17) (lv' := [some (vR 800), some (vI (nI n5)), some (vI (nI n9)), some (vI z), none]) (st' := [vI z, vR 800, vR 800]) rfl ?_
        refine g_cV1 rfl (args := [vR 800, vI z]) (rest := [vR 800]) rfl rfl rfl (s_234 (d := d + 9) hI hSs1) ?_
        refine g_if1 (i' := 21) (P := okx z (sn S 9)) rfl rfl (g_eqB.trans Classical.not_not) (fun h12 => ?_) (fun h12 => ?_)
        · obtain ⟨n13, ln13, en13⟩ := okx_of h12
          subst en13
          refine g_pure 2 (i' := 23) (lv' := [some (vR 800), some (vI (nI n5)), some (vI (nI n9)), some (vI (nI n13)), none]) (st' := [vI 1, vI 0, vR 800]) rfl ?_
          refine gW_eq (st' := [vI (nI 1), vI 0, vR 800]) rfl (by rw [(show (1 : Int32) = nI 1 from rfl)]) rfl ?_
          refine g_cV1 rfl (args := [vR 800, vI 0, vI (nI 1)]) (rest := []) rfl rfl rfl (s_227f (d := d + 10) (by omega)) ?_
          refine g_if1 (i' := 27) (P := 0 = 0) rfl rfl (g_eqN (show 0 = nI 0 from (show (0 : Int32) = nI 0 from rfl)) (show 0 = nI 0 from (show (0 : Int32) = nI 0 from rfl)) (by omega) (by omega)) (fun _ => ?_) (fun h14 => absurd (by omega) h14)
          exact o4 s1 es1 n5 rfl ln5 n9 rfl ln9 h10 n13 rfl ln13
        · refine g_pure 3 (i' := 23) (lv' := [some (vR 800), some (vI (nI n5)), some (vI (nI n9)), some (vI z), none]) (st' := [vI 1, vI 1, vR 800]) rfl ?_
          refine gW_eq (st' := [vI (nI 1), vI 1, vR 800]) rfl (by rw [(show (1 : Int32) = nI 1 from rfl)]) rfl ?_
          refine g_cV1 rfl (args := [vR 800, vI 1, vI (nI 1)]) (rest := []) rfl rfl rfl (s_227t (d := d + 10) (by omega)) ?_
          refine g_setv (fun s15 es15 => ?_)
          have hSs15 : s15 801 = S := by rw [es15, mu_ne (by decide), hSs1]
          refine g_if1 (i' := 27) (P := 1 = 0) rfl rfl (g_eqN (show 1 = nI 1 from (show (1 : Int32) = nI 1 from rfl)) (show 0 = nI 0 from (show (0 : Int32) = nI 0 from rfl)) (by omega) (by omega)) (fun h16 => absurd h16 (by omega)) (fun _ => ?_)
          refine g_pure 1 (i' := 26) (lv' := [some (vR 800), some (vI (nI n5)), some (vI (nI n9)), some (vI z), none]) (st' := [vI 0]) rfl ?_
          refine g_iret rfl ?_
          exact o5 s1 es1 n5 rfl ln5 n9 rfl ln9 h10 h12 s15 es15

abbrev gokP (S : Nat → Int32) (x y z : Int32) : Prop := okx x (sn S 1) ∧ okx y (sn S 0) ∧ (z = -1 ∨ okx z (sn S 9))
theorem gokP.of {B : Nat} {S : Nat → Int32} (hI : Inv B S) {x y z : Int32} (h : gokP S x y z) : ∃ k v, k < sn S 1 ∧ v < sn S 0 ∧ x = nI k ∧ y = nI v ∧ (z = -1 ∨ ∃ e, e < sn S 9 ∧ z = nI e) := by
  obtain ⟨k, h1, h2⟩ := okx_of h.1
  obtain ⟨v, h3, h4⟩ := okx_of h.2.1
  refine ⟨k, v, h1, h3, h2, h4, ?_⟩
  rcases h.2.2 with h5 | h5
  · exact Or.inl h5
  · obtain ⟨e, h6, h7⟩ := okx_of h5
    exact Or.inr ⟨e, h6, h7⟩
theorem s_160o {X : Nat × (Nat → Int32)} {d : Nat} {p : Nat → Nat} {sg : Mg} {B : Nat} {S : Nat → Int32} (hI : Inv B S) (hL : cwL 250 sg S) (hD : cwD 200 sg S) {x y z : Int32} (h : gokP S x y z) : gF X (d + 3) 160 [vR 0, vI x, vI y, vI z] p sg (fun r => r = gR0 p sg) :=
  g_in (cd := k_160) (nL := 4) (rc := 12) rfl (g_A (a := 0) (kd := 0) (n := 11) rfl (by decide)) (g_c1 rfl) (b_160_0 hI hL hD (fun _ _ _ _ _ _ _ => rfl) (fun _ _ _ _ _ _ _ _ _ _ => rfl) (fun _ _ _ _ _ _ g1 g2 => (h.2.2.elim g1 g2).elim) (fun _ _ _ g => absurd h.2.1 g) (fun g => absurd h.1 g))
theorem s_160x {X : Nat × (Nat → Int32)} {d : Nat} {p : Nat → Nat} {sg : Mg} {B : Nat} {S : Nat → Int32} (hI : Inv B S) (hL : cwL 250 sg S) (hD : cwD 200 sg S) {x y z : Int32} (h : ¬ gokP S x y z) : gF X (d + 3) 160 [vR 0, vI x, vI y, vI z] p sg (fun r => r = gRx p sg 2) := by
  have b0 := hI.b0; have b1 := hI.b1; have b9 := hI.b9
  refine g_in (cd := k_160) (nL := 4) (rc := 12) rfl (g_A (a := 0) (kd := 0) (n := 11) rfl (by decide)) (g_c1 rfl) (b_160_0 hI hL hD (fun k e1 l1 v e2 l2 g => absurd ⟨?_, ?_, Or.inl g⟩ h) (fun k e1 l1 v e2 l2 _ e e3 l3 => absurd ⟨?_, ?_, Or.inr ?_⟩ h) (fun _ _ _ _ _ _ _ _ => rfl) (fun _ _ _ _ => rfl) (fun _ => rfl))
  · rw [e1]; exact (okx_nI (by omega)).mpr l1
  · rw [e2]; exact (okx_nI (by omega)).mpr l2
  · rw [e1]; exact (okx_nI (by omega)).mpr l1
  · rw [e2]; exact (okx_nI (by omega)).mpr l2
  · rw [e3]; exact (okx_nI (by omega)).mpr l3
noncomputable def soonestR (S : Nat → Int32) (x y z : Int32) : Nat × Int32 := if gokP S x y z then (0, snV S x.toNatClampNeg y.toNatClampNeg z) else (1, 0)
theorem c_soonest {X : Nat × (Nat → Int32)} {d : Nat} {p : Nat → Nat} {sg : Mg} {B : Nat} {A : AS} (hI : RI B A) (hR : RC A p sg) {x y z : Int32} : gF X (d + 9) 159 [vR 0, vI x, vI y, vI z] p sg (cR A A (fun _ => 2) (soonestR A.S x y z) sg) := by
  have b0 := hI.1.b0; have b1 := hI.1.b1
  refine g_in (cd := k_159) (nL := 4) (rc := 12) rfl (g_A (a := 0) (kd := 0) (n := 11) rfl (by decide)) (g_c1 rfl) ?_
  show gW X (d + 8) k_159 0 [some (vR 0), some (vI x), some (vI y), some (vI z)] [] p sg _
  refine g_pure 4 (i' := 4) (lv' := [some (vR 0), some (vI x), some (vI y), some (vI z)]) (st' := [vI z, vI y, vI x, vR 0]) rfl ?_
  by_cases h : gokP A.S x y z
  · refine g_cV0 rfl (args := [vR 0, vI x, vI y, vI z]) (rest := []) rfl rfl rfl (s_160o (d := d + 5) hI.1 hR.2.1.1 hR.2.1.2.1 h) ?_
    unfold soonestR
    rw [if_pos h]
    obtain ⟨k, v, hk, hv, rfl, rfl, hz⟩ := h.of hI.1
    rw [nI_clamp (by omega), nI_clamp (by omega)]
    refine g_pure 5 (i' := 10) (lv' := [some (vR 0), some (vI (nI k)), some (vI (nI v)), some (vI z)]) (st' := [vI z, vI (nI v), vI (nI k), vR 8]) rfl ?_
    refine g_cV1E rfl (args := [vR 8, vI (nI k), vI (nI v), vI z]) (rest := []) rfl rfl rfl (s_81 (d := d) hI.1 hR.2.1.1 hR.2.1.2.1 (hR.W hI) hk hv hz) (fun s h9 => ?_)
    exact g_iret rfl (cR_v (hR.wy hI h9.1) (fun c hc => h9.1 c (by omega) (by omega) (by omega) (by omega)) rfl)
  · refine g_cVx rfl (args := [vR 0, vI x, vI y, vI z]) (rest := []) rfl rfl rfl (s_160x (d := d + 5) hI.1 hR.2.1.1 hR.2.1.2.1 h) ?_
    refine cR_x hR (fun _ _ => rfl) (c := 0) ?_ rfl
    unfold soonestR
    rw [if_neg h]
/-- the reference's ways may write this -/
theorem RM.sr {A : AS} {sg s : Mg} (hR : RM A sg) (h : ∀ c, c ≠ 807 → (c < 808 ∨ 815 ≤ c) → c ≠ 816 → c ≠ 817 → c ≠ 818 → s c = sg c) : RM A s := hR.ext (fun c hc => h c (by omega) (by omega) (by omega) (by omega) (by omega)) (fun k _ => congrFun (h 800 (by decide) (by decide) (by decide) (by decide) (by decide)) k)
theorem m_soonest {X : Nat × (Nat → Int32)} {d : Nat} {p : Nat → Nat} {sg : Mg} {B : Nat} {A : AS} (hI : RI B A) (hR : RM A sg) {x y z : Int32} : gF X (d + 12) 271 [vR 800, vI x, vI y, vI z] p sg (mR A A (soonestR A.S x y z) p sg) := by
  have b0 := hI.1.b0; have b1 := hI.1.b1; have b8 := hI.1.b8
  have bad : ∀ s1 s3, s1 = mu sg 800 0 0 → s3 = mu s1 800 0 (nI 1) → ¬ gokP A.S x y z → mR A A (soonestR A.S x y z) p sg (gRv p s3 0) := fun s1 s3 f1 f3 h => by
    refine mR_x ((hR.th f1).th f3) (fun c hc => by rw [f3, f1, up_hi hc, up_hi hc]) (c := 0) (by rw [f3, mu_self]) ?_
    unfold soonestR
    rw [if_neg h]
  have good : ∀ s1 k v, s1 = mu sg 800 0 0 → k < sn A.S 1 → v < sn A.S 0 → (z = -1 ∨ ∃ e, e < sn A.S 9 ∧ z = nI e) → x = nI k → y = nI v → gW X (d + 11) k_271 27 [some (vR 800), some (vI (nI k)), some (vI (nI v)), some (vI z), none] [] p s1 (mR A A (soonestR A.S x y z) p sg) := fun s1 k v f1 hk hv hz ex ey => by
    have ok : gokP A.S x y z := by
      refine ⟨?_, ?_, ?_⟩
      · rw [ex]; exact (okx_nI (by omega)).mpr hk
      · rw [ey]; exact (okx_nI (by omega)).mpr hv
      · rcases hz with h | ⟨e, h, h2⟩
        · exact Or.inl h
        · right; rw [h2]; exact (okx_nI (by have := hI.1.b9; omega)).mpr h
    unfold soonestR
    rw [if_pos ok]
    subst ex ey
    rw [nI_clamp (by omega), nI_clamp (by omega)]
    have hR1 := hR.th f1
    refine g_pure 4 (i' := 31) (lv' := [some (vR 800), some (vI (nI k)), some (vI (nI v)), some (vI z), none]) (st' := [vI z, vI (nI v), vI (nI k), vR 800]) rfl ?_
    refine g_cV1E rfl (args := [vR 800, vI (nI k), vI (nI v), vI z]) (rest := []) rfl rfl rfl (s_272 (d := d) hI.1 hR1.1 hI.2.2.1 hk hv hz) (fun s h9 => ?_)
    have hRs : RM A s := hR1.sr (fun c c1 c2 c3 c4 c5 => h9 c c1 (by omega))
    have hh : ∀ c, c < 800 ∨ 900 ≤ c → s c = sg c := fun c hc => by rw [h9 c (by omega) (by omega), f1, up_hi hc]
    have h0 : s 800 0 = 0 := by rw [h9 800 (by decide) (by decide), f1, mu_self]
    unfold snV
    by_cases h2 : snT A.S k v z < 201
    · rw [if_pos h2, if_pos h2]
      refine g_pure 2 (i' := 34) (lv' := [some (vR 800), some (vI (nI k)), some (vI (nI v)), some (vI z), some (vI (nI (snT A.S k v z)))]) (st' := [vI (nI (snT A.S k v z))]) rfl ?_
      refine g_if1 (i' := 37) (P := True) rfl rfl ⟨fun _ => trivial, fun _ => nI_pos' (by omega)⟩ (fun _ => ?_) (fun h => absurd trivial h)
      refine g_pure 1 (i' := 38) (lv' := [some (vR 800), some (vI (nI k)), some (vI (nI v)), some (vI z), some (vI (nI (snT A.S k v z)))]) (st' := [vR 800]) rfl ?_
      refine g_cV1 rfl (args := [vR 800]) (rest := []) rfl rfl rfl (s_248 (d := d + 10) hRs.1) ?_
      refine g_pure 2 (i' := 41) (lv' := [some (vR 800), some (vI (nI k)), some (vI (nI v)), some (vI z), some (vI (nI (snT A.S k v z)))]) (st' := [vI (A.S 8 + nI (snT A.S k v z))]) rfl ?_
      refine g_iret rfl (mR_v hRs hh h0 ?_)
      rw [← nI_add, ← hI.1.c8]
    · rw [if_neg h2, if_neg h2]
      refine g_pure 2 (i' := 34) (lv' := [some (vR 800), some (vI (nI k)), some (vI (nI v)), some (vI z), some (vI (-1))]) (st' := [vI (-1)]) rfl ?_
      refine g_if1 (i' := 37) (P := False) rfl rfl (by show ((0 : Int32) ≤ -1) ↔ False; decide) (fun h => h.elim) (fun _ => ?_)
      refine g_pure 2 (i' := 41) (lv' := [some (vR 800), some (vI (nI k)), some (vI (nI v)), some (vI z), some (vI (-1))]) (st' := [vI (-1)]) rfl ?_
      exact g_iret rfl (mR_v hRs hh h0 rfl)
  refine g_in (cd := k_271) (nL := 5) (rc := 13) rfl (g_A (a := 800) (kd := 0) (n := 12) rfl (by decide)) (g_c1 rfl) (b_271_0 hI.1 hR.1 (fun s1 f1 h s3 f3 => bad _ _ f1 f3 (fun g => h g.1)) (fun s1 f1 k ek hk h s3 f3 => bad _ _ f1 f3 (fun g => h g.2.1)) (fun s1 f1 k ek hk v ev hv h => good s1 k v f1 hk hv (Or.inl h) ek ev) (fun s1 f1 k ek hk v ev hv h e ee he => ?_) (fun s1 f1 k ek hk v ev hv h h2 s3 f3 => bad _ _ f1 f3 (fun g => g.2.2.elim h h2)))
  have := good s1 k v f1 hk hv (Or.inr ⟨e, he, ee⟩) ek ev
  rw [ee] at this ⊢
  exact this

theorem b_163_0 {X : Nat × (Nat → Int32)} {d : Nat} {p : Nat → Nat} {sg : Mg} {Q : am_R → Prop} {B : Nat} {S : Nat → Int32} (hI : Inv B S) (hL : cwL 250 sg S) (hD : cwD 200 sg S) {x : Int32} {y : Int32}
    (o1 : ∀ n2 : Nat, x = nI n2 → n2 < sn S 1 → ∀ n4 : Nat, y = nI n4 → 0 ≤ n4 ∧ n4 ≤ 200 → gW X (d + 9) k_163 8 [some (vR 0), some (vI (nI n2)), some (vI (nI n4))] [] p sg Q)
    (o2 : ∀ n2 : Nat, x = nI n2 → n2 < sn S 1 → (¬ (¬ (y < 0) ∧ ¬ (200 < y))) → Q (gRx p sg 0))
    (o3 : (¬ okx x (sn S 1)) → Q (gRx p sg 2)) :
    gW X (d + 9) k_163 0 [some (vR 0), some (vI x), some (vI y)] [] p sg Q := by
  have b0 := hI.b0; have b1 := hI.b1; have b2 := hI.b2; have b3 := hI.b3; have b4 := hI.b4; have b5 := hI.b5; have b6 := hI.b6; have b7 := hI.b7; have b8 := hI.b8; have b9 := hI.b9; have b14 := hI.b14
  refine g_pure 3 (i' := 3) (lv' := [some (vR 0), some (vI x), some (vI y)]) (st' := [vI x, vI 1, vR 0]) rfl ?_
  by_cases h1 : okx x (sn S 1)
  · obtain ⟨n2, ln2, en2⟩ := okx_of h1
    subst en2
    refine gW_eq (st' := [vI (nI n2), vI (nI 1), vR 0]) rfl (by rw [(show (1 : Int32) = nI 1 from rfl)]) rfl ?_
    refine g_cV0 rfl (args := [vR 0, vI (nI 1), vI (nI n2)]) (rest := []) rfl rfl rfl (s_140o (d := d + 7) hI hL hD (by omega) ((okx_nI (by omega)).mpr (by omega))) ?_
    refine g_pure 3 (i' := 7) (lv' := [some (vR 0), some (vI (nI n2)), some (vI y)]) (st' := [vI 200, vI 0, vI y]) rfl ?_
    by_cases h3 : (¬ (y < 0) ∧ ¬ (200 < y))
    · obtain ⟨n4, ln4, en4⟩ := okr_of (lo := 0) (hi := 200) (by decide) h3
      subst en4
      refine g_cS0 rfl (args := [vI (nI n4), vI 0, vI 200]) (rest := []) rfl rfl rfl (s_141o (d := d + 8) (nI_nlt (b := 0) (by omega) (by omega)) (nI_nlt (a := 200) (by omega) (by omega))) ?_
      exact o1 n2 rfl ln2 n4 rfl ln4
    · refine g_cSx rfl (args := [vI y, vI 0, vI 200]) (rest := []) rfl rfl rfl (s_141x (d := d + 8) (by assumption)) ?_
      exact o2 n2 rfl ln2 h3
  · refine gW_eq (st' := [vI x, vI (nI 1), vR 0]) rfl (by rw [(show (1 : Int32) = nI 1 from rfl)]) rfl ?_
    refine g_cVx rfl (args := [vR 0, vI (nI 1), vI x]) (rest := []) rfl rfl rfl (s_140x (d := d + 7) hI hL hD (by omega) (by assumption)) ?_
    exact o3 h1

theorem b_283_0 {X : Nat × (Nat → Int32)} {d : Nat} {p : Nat → Nat} {sg : Mg} {Q : am_R → Prop} {B : Nat} {S : Nat → Int32} (hI : Inv B S) (hS : sg 801 = S) {x : Int32} {y : Int32}
    (o1 : ∀ s1 : Mg, s1 = mu sg 800 0 0 → (¬ okx x (sn S 1)) → ∀ s3 : Mg, s3 = mu s1 800 0 (nI 1) → Q (gRv p s3 0))
    (o2 : ∀ s1 : Mg, s1 = mu sg 800 0 0 → ∀ n5 : Nat, x = nI n5 → n5 < sn S 1 → ∀ n8 : Nat, y = nI n8 → 0 ≤ n8 ∧ n8 ≤ 200 → gW X (d + 10) k_283 24 [some (vR 800), some (vI (nI n5)), some (vI (nI n8)), none, none] [] p s1 Q)
    (o3 : ∀ s1 : Mg, s1 = mu sg 800 0 0 → ∀ n5 : Nat, x = nI n5 → n5 < sn S 1 → (¬ (¬ (y < 0) ∧ ¬ (200 < y))) → ∀ s10 : Mg, s10 = mu s1 800 0 (nI 2) → Q (gRv p s10 0)) :
    gW X (d + 10) k_283 0 [some (vR 800), some (vI x), some (vI y), none, none] [] p sg Q := by
  have b0 := hI.b0; have b1 := hI.b1; have b2 := hI.b2; have b3 := hI.b3; have b4 := hI.b4; have b5 := hI.b5; have b6 := hI.b6; have b7 := hI.b7; have b8 := hI.b8; have b9 := hI.b9; have b14 := hI.b14
  refine g_pure 2 (i' := 2) (lv' := [some (vR 800), some (vI x), some (vI y), none, none]) (st' := [vI 0, vR 800]) rfl ?_
  refine g_putI rfl (g_A (a := 800) (kd := 0) (n := 12) rfl (by decide)) ?_
  refine g_setv (fun s1 es1 => ?_)
  have hSs1 : s1 801 = S := by rw [es1, mu_ne (by decide), hS]
  refine g_pure 3 (i' := 6) (lv' := [some (vR 800), some (vI x), some (vI y), none, none]) (st' := [vI x, vR 800, vR 800]) rfl ?_
  refine g_cV1 rfl (args := [vR 800, vI x]) (rest := [vR 800]) rfl rfl rfl (s_237 (d := d + 8) hI hSs1) ?_
  refine g_pure 1 (i' := 8) (lv' := [some (vR 800), some (vI x), some (vI y), none, none]) (st' := [vI 1, vI (if ¬ okx x (sn S 1) then 1 else 0), vR 800]) rfl ?_
  by_cases h2 : ¬ okx x (sn S 1)
  · refine gW_eq (st' := [vI 1, vI 1, vR 800]) rfl (by rw [if_pos h2]) rfl ?_
    refine gW_eq (st' := [vI (nI 1), vI 1, vR 800]) rfl (by rw [(show (1 : Int32) = nI 1 from rfl)]) rfl ?_
    refine g_cV1 rfl (args := [vR 800, vI 1, vI (nI 1)]) (rest := []) rfl rfl rfl (s_227t (d := d + 9) (by omega)) ?_
    refine g_setv (fun s3 es3 => ?_)
    have hSs3 : s3 801 = S := by rw [es3, mu_ne (by decide), hSs1]
    refine g_if1 (i' := 22) (P := ¬ 1 = 0) rfl rfl (g_neN (show 1 = nI 1 from (show (1 : Int32) = nI 1 from rfl)) (show 0 = nI 0 from (show (0 : Int32) = nI 0 from rfl)) (by omega) (by omega)) (fun _ => ?_) (fun h4 => absurd (by omega) h4)
    refine g_pure 1 (i' := 23) (lv' := [some (vR 800), some (vI x), some (vI y), none, none]) (st' := [vI 0]) rfl ?_
    refine g_iret rfl ?_
    exact o1 s1 es1 h2 s3 es3
  · have h2 := Classical.not_not.mp h2
    refine gW_eq (st' := [vI 1, vI 0, vR 800]) rfl (by rw [if_neg (fun n9 => n9 h2)]) rfl ?_
    obtain ⟨n5, ln5, en5⟩ := okx_of h2
    subst en5
    refine gW_eq (st' := [vI (nI 1), vI 0, vR 800]) rfl (by rw [(show (1 : Int32) = nI 1 from rfl)]) rfl ?_
    refine g_cV1 rfl (args := [vR 800, vI 0, vI (nI 1)]) (rest := []) rfl rfl rfl (s_227f (d := d + 9) (by omega)) ?_
    refine g_if1 (i' := 22) (P := ¬ 0 = 0) rfl rfl (g_neN (show 0 = nI 0 from (show (0 : Int32) = nI 0 from rfl)) (show 0 = nI 0 from (show (0 : Int32) = nI 0 from rfl)) (by omega) (by omega)) (fun h6 => absurd h6 (by omega)) (fun _ => ?_)
    refine g_pure 4 (i' := 14) (lv' := [some (vR 800), some (vI (nI n5)), some (vI y), none, none]) (st' := [vI 200, vI 0, vI y, vR 800]) rfl ?_
    refine g_cS1 rfl (args := [vI y, vI 0, vI 200]) (rest := [vR 800]) rfl rfl rfl (s_231 (d := d + 9) ) ?_
    refine g_if1 (i' := 18) (P := (¬ (y < 0) ∧ ¬ (200 < y))) rfl rfl g_neB (fun h7 => ?_) (fun h7 => ?_)
    · obtain ⟨n8, ln8, en8⟩ := okr_of (lo := 0) (hi := 200) (by decide) h7
      subst en8
      refine g_pure 2 (i' := 20) (lv' := [some (vR 800), some (vI (nI n5)), some (vI (nI n8)), none, none]) (st' := [vI 2, vI 0, vR 800]) rfl ?_
      refine gW_eq (st' := [vI (nI 2), vI 0, vR 800]) rfl (by rw [(show (2 : Int32) = nI 2 from rfl)]) rfl ?_
      refine g_cV1 rfl (args := [vR 800, vI 0, vI (nI 2)]) (rest := []) rfl rfl rfl (s_227f (d := d + 9) (by omega)) ?_
      refine g_if1 (i' := 24) (P := 0 = 0) rfl rfl (g_eqN (show 0 = nI 0 from (show (0 : Int32) = nI 0 from rfl)) (show 0 = nI 0 from (show (0 : Int32) = nI 0 from rfl)) (by omega) (by omega)) (fun _ => ?_) (fun h9 => absurd (by omega) h9)
      exact o2 s1 es1 n5 rfl ln5 n8 rfl ln8
    · refine g_pure 3 (i' := 20) (lv' := [some (vR 800), some (vI (nI n5)), some (vI y), none, none]) (st' := [vI 2, vI 1, vR 800]) rfl ?_
      refine gW_eq (st' := [vI (nI 2), vI 1, vR 800]) rfl (by rw [(show (2 : Int32) = nI 2 from rfl)]) rfl ?_
      refine g_cV1 rfl (args := [vR 800, vI 1, vI (nI 2)]) (rest := []) rfl rfl rfl (s_227t (d := d + 9) (by omega)) ?_
      refine g_setv (fun s10 es10 => ?_)
      have hSs10 : s10 801 = S := by rw [es10, mu_ne (by decide), hSs1]
      refine g_if1 (i' := 24) (P := 1 = 0) rfl rfl (g_eqN (show 1 = nI 1 from (show (1 : Int32) = nI 1 from rfl)) (show 0 = nI 0 from (show (0 : Int32) = nI 0 from rfl)) (by omega) (by omega)) (fun h11 => absurd h11 (by omega)) (fun _ => ?_)
      refine g_pure 1 (i' := 23) (lv' := [some (vR 800), some (vI (nI n5)), some (vI y), none, none]) (st' := [vI 0]) rfl ?_
      refine g_iret rfl ?_
      exact o3 s1 es1 n5 rfl ln5 h7 s10 es10

theorem b_93_0 {X : Nat × (Nat → Int32)} {d : Nat} {p : Nat → Nat} {sg : Mg} {Q : am_R → Prop} {B : Nat} {S : Nat → Int32} (hI : Inv B S) (hL : cwL 250 sg S) (hD : cwD 200 sg S) (hW : LW S sg) {k : Nat} {n : Nat} (u_k : k ≤ 7) (u_n : n ≤ 200) (q1 : k < sn S 1)
    (o1 : ∀ s1 : Mg, ((∀ c, c ≠ 8 → c ≠ 9 → s1 c = sg c) ∧ bOK S s1) → ∀ s2 : Mg, (SF s1 s2 ∧ bOK S s2 ∧ ∃ F, soM s2 F ∧ spP S k (hmN S k) (stN S k) (sn S 8 + n) F) → gW X (d + 8) k_93 14 [some (vR 8), some (vI (nI k)), some (vI (nI n)), some (vI 0), some (vI 0)] [] p s2 Q) :
    gW X (d + 8) k_93 0 [some (vR 8), some (vI (nI k)), some (vI (nI n)), none, none] [] p sg Q := by
  have b0 := hI.b0; have b1 := hI.b1; have b2 := hI.b2; have b3 := hI.b3; have b4 := hI.b4; have b5 := hI.b5; have b6 := hI.b6; have b7 := hI.b7; have b8 := hI.b8; have b9 := hI.b9; have b14 := hI.b14
  refine g_pure 1 (i' := 1) (lv' := [some (vR 8), some (vI (nI k)), some (vI (nI n)), none, none]) (st' := [vR 8]) rfl ?_
  refine g_cV0E rfl (args := [vR 8]) (rest := []) rfl rfl rfl (s_82 (d := d + 6) hW) (fun s1 es1 => ?_)
  have hLs1 : cwL 250 s1 S := (hL).eqc (fun c h1 h2 => es1.1 c (by omega) (by omega))
  have hDs1 : cwD 200 s1 S := (hD).eqc (fun c h1 => es1.1 c (by omega) (by omega))
  have hWs1 : LW S s1 := (hW).eqc (fun c h1 h2 => es1.1 c (by omega) (by omega))
  refine g_pure 4 (i' := 6) (lv' := [some (vR 8), some (vI (nI k)), some (vI (nI n)), none, none]) (st' := [vR 250, vI (nI k), vR 8]) rfl ?_
  refine g_getI rfl (g_A (a := 250) (kd := 0) (n := 6) rfl (by decide)) (show _ = S 8 from hLs1.f12) ?_
  refine g_pure 2 (i' := 9) (lv' := [some (vR 8), some (vI (nI k)), some (vI (nI n)), none, none]) (st' := [vI (S 8 + nI n), vI (nI k), vR 8]) rfl ?_
  refine gW_eq (lv' := [some (vR 8), some (vI (nI k)), some (vI (nI n)), none, none]) (st' := [vI (nI (sn S 8 + n)), vI (nI k), vR 8]) rfl (by rw [(show (S 8 + nI n) = nI (sn S 8 + n) from ((g_add (hI.c8) (rfl : nI n = nI n))).trans (congrArg nI (by omega)))]) rfl ?_
  refine g_cV0E rfl (args := [vR 8, vI (nI k), vI (nI (sn S 8 + n))]) (rest := []) rfl rfl rfl (s_83 (d := d + 1) hI hLs1 hDs1 hWs1 es1.2 (by omega) (by omega)) (fun s2 es2 => ?_)
  have hLs2 : cwL 250 s2 S := es2.1.L hLs1
  have hDs2 : cwD 200 s2 S := es2.1.D hDs1
  have hWs2 : LW S s2 := es2.1.W hWs1
  refine g_pure 4 (i' := 14) (lv' := [some (vR 8), some (vI (nI k)), some (vI (nI n)), some (vI 0), some (vI 0)]) (st' := []) rfl ?_
  exact o1 s1 es1 s2 es2

theorem b_93_14 {X : Nat × (Nat → Int32)} {d : Nat} {p : Nat → Nat} {sg : Mg} {Q : am_R → Prop} {B : Nat} {S : Nat → Int32} (hI : Inv B S) (hL : cwL 250 sg S) (hD : cwD 200 sg S) {z1 : Option AV} {z2 : Option AV} {w : Nat} {j : Nat} (u_w : w ≤ 63) (u_j : j ≤ 6)
    (o1 : (sn S 0 ≤ j) → Q (gRv p sg (nI w)))
    (o2 : (¬ (sn S 0 ≤ j)) → (sg 10 j = 2000000000) → gW X (d + 8) k_93 14 [some (vR 8), z1, z2, some (vI (nI w)), some (vI (nI (j + 1)))] [] p sg Q)
    (o3 : (¬ (sn S 0 ≤ j)) → (¬ (sg 10 j = 2000000000)) → gW X (d + 8) k_93 14 [some (vR 8), z1, z2, some (vI (nI w ||| (1 <<< (nI j &&& 31)))), some (vI (nI (j + 1)))] [] p sg Q) :
    gW X (d + 8) k_93 14 [some (vR 8), z1, z2, some (vI (nI w)), some (vI (nI j))] [] p sg Q := by
  have b0 := hI.b0; have b1 := hI.b1; have b2 := hI.b2; have b3 := hI.b3; have b4 := hI.b4; have b5 := hI.b5; have b6 := hI.b6; have b7 := hI.b7; have b8 := hI.b8; have b9 := hI.b9; have b14 := hI.b14
  refine g_pure 5 (i' := 19) (lv' := [some (vR 8), z1, z2, some (vI (nI w)), some (vI (nI j))]) (st' := [vI 0, vR 203, vI (nI j)]) rfl ?_
  refine g_ald rfl (g_A (a := 203) (kd := 1) (n := 6) rfl (by decide)) (by decide) (show 0 = nI 0 from (show (0 : Int32) = nI 0 from rfl)) (by decide) (show _ = S 0 from (hD.cnt (by decide))) ?_
  refine g_if2 (i' := 35) (P := sn S 0 ≤ j) rfl rfl (g_geN (show nI j = nI j from (rfl : nI j = nI j)) (show S 0 = nI (sn S 0) from (hI.c0)) (by omega) (by omega)) (fun h1 => ?_) (fun h1 => ?_)
  · refine g_pure 1 (i' := 36) (lv' := [some (vR 8), z1, z2, some (vI (nI w)), some (vI (nI j))]) (st' := [vI (nI w)]) rfl ?_
    refine g_iret rfl ?_
    exact o1 h1
  · refine g_pure 3 (i' := 24) (lv' := [some (vR 8), z1, z2, some (vI (nI w)), some (vI (nI j))]) (st' := [vI (nI j), vR 10]) rfl ?_
    refine g_ald rfl (g_A (a := 10) (kd := 1) (n := 6) rfl (by decide)) (by decide) (show nI j = nI j from (rfl : nI j = nI j)) (by omega) (show _ = sg 10 j from rfl) ?_
    refine g_pure 1 (i' := 26) (lv' := [some (vR 8), z1, z2, some (vI (nI w)), some (vI (nI j))]) (st' := [vI 2000000000, vI (sg 10 j)]) rfl ?_
    refine g_if2 (i' := 33) (P := sg 10 j = 2000000000) rfl rfl Iff.rfl (fun h2 => ?_) (fun h2 => ?_)
    · refine g_pure 2 (i' := 14) (lv' := [some (vR 8), z1, z2, some (vI (nI w)), some (vI (nI j + 1))]) (st' := []) rfl ?_
      refine gW_eq (lv' := [some (vR 8), z1, z2, some (vI (nI w)), some (vI (nI (j + 1)))]) (st' := []) (by rw [(show (nI j + 1) = nI (j + 1) from ((g_add (rfl : nI j = nI j) (show (1 : Int32) = nI 1 from rfl))).trans (congrArg nI (by omega)))]) rfl rfl ?_
      exact o2 h1 h2
    · refine g_pure 8 (i' := 14) (lv' := [some (vR 8), z1, z2, some (vI (nI w ||| (1 <<< (nI j &&& 31)))), some (vI (nI j + 1))]) (st' := []) rfl ?_
      refine gW_eq (lv' := [some (vR 8), z1, z2, some (vI (nI w ||| (1 <<< (nI j &&& 31)))), some (vI (nI (j + 1)))]) (st' := []) (by rw [(show (nI j + 1) = nI (j + 1) from ((g_add (rfl : nI j = nI j) (show (1 : Int32) = nI 1 from rfl))).trans (congrArg nI (by omega)))]) rfl rfl ?_
      exact o3 h1 h2

theorem b_283_31 {X : Nat × (Nat → Int32)} {d : Nat} {p : Nat → Nat} {sg : Mg} {Q : am_R → Prop} {B : Nat} {S : Nat → Int32} (hI : Inv B S) (hS : sg 801 = S) {C : Nat → Bool} (hC : cnM 809 1236 sg C) {z1 : Option AV} {n : Nat} {w : Nat} {j : Nat} (u_n : n ≤ 200) (u_w : w ≤ 63) (u_j : j ≤ 6)
    (o1 : (sn S 0 ≤ j) → Q (gRv p sg (nI w)))
    (o2 : (¬ (sn S 0 ≤ j)) → (¬ (C (6 * n + j) = true)) → gW X (d + 10) k_283 31 [some (vR 800), z1, some (vI (nI n)), some (vI (nI w ||| 0)), some (vI (nI (j + 1)))] [] p sg Q)
    (o3 : (¬ (sn S 0 ≤ j)) → ((C (6 * n + j) = true)) → gW X (d + 10) k_283 31 [some (vR 800), z1, some (vI (nI n)), some (vI (nI w ||| (1 <<< (nI j &&& 31)))), some (vI (nI (j + 1)))] [] p sg Q) :
    gW X (d + 10) k_283 31 [some (vR 800), z1, some (vI (nI n)), some (vI (nI w)), some (vI (nI j))] [] p sg Q := by
  have b0 := hI.b0; have b1 := hI.b1; have b2 := hI.b2; have b3 := hI.b3; have b4 := hI.b4; have b5 := hI.b5; have b6 := hI.b6; have b7 := hI.b7; have b8 := hI.b8; have b9 := hI.b9; have b14 := hI.b14
  refine g_pure 2 (i' := 33) (lv' := [some (vR 800), z1, some (vI (nI n)), some (vI (nI w)), some (vI (nI j))]) (st' := [vR 800, vI (nI j)]) rfl ?_
  refine g_cV1 rfl (args := [vR 800]) (rest := [vI (nI j)]) rfl rfl rfl (s_195 (d := d + 9) hS) ?_
  refine g_if2 (i' := 50) (P := sn S 0 ≤ j) rfl rfl (g_geN (show nI j = nI j from (rfl : nI j = nI j)) (show S 0 = nI (sn S 0) from (hI.c0)) (by omega) (by omega)) (fun h1 => ?_) (fun h1 => ?_)
  · refine g_pure 1 (i' := 51) (lv' := [some (vR 800), z1, some (vI (nI n)), some (vI (nI w)), some (vI (nI j))]) (st' := [vI (nI w)]) rfl ?_
    refine g_iret rfl ?_
    exact o1 h1
  · refine g_pure 4 (i' := 39) (lv' := [some (vR 800), z1, some (vI (nI n)), some (vI (nI w)), some (vI (nI j))]) (st' := [vI (nI j), vI (nI n), vR 800, vI (nI w)]) rfl ?_
    refine g_cV1 rfl (args := [vR 800, vI (nI n), vI (nI j)]) (rest := [vI (nI w)]) rfl rfl rfl (s_278 (d := d + 8) hI hS hC (by omega) (by omega)) ?_
    refine g_if1 (i' := 45) (P := ¬ (C (6 * n + j) = true)) rfl rfl g_eqB (fun h2 => ?_) (fun h2 => ?_)
    · refine g_pure 5 (i' := 31) (lv' := [some (vR 800), z1, some (vI (nI n)), some (vI (nI w ||| 0)), some (vI (nI j + 1))]) (st' := []) rfl ?_
      refine gW_eq (lv' := [some (vR 800), z1, some (vI (nI n)), some (vI (nI w ||| 0)), some (vI (nI (j + 1)))]) (st' := []) (by rw [(show (nI j + 1) = nI (j + 1) from ((g_add (rfl : nI j = nI j) (show (1 : Int32) = nI 1 from rfl))).trans (congrArg nI (by omega)))]) rfl rfl ?_
      exact o2 h1 h2
    · have h2 := Classical.not_not.mp h2
      refine g_pure 8 (i' := 31) (lv' := [some (vR 800), z1, some (vI (nI n)), some (vI (nI w ||| (1 <<< (nI j &&& 31)))), some (vI (nI j + 1))]) (st' := []) rfl ?_
      refine gW_eq (lv' := [some (vR 800), z1, some (vI (nI n)), some (vI (nI w ||| (1 <<< (nI j &&& 31)))), some (vI (nI (j + 1)))]) (st' := []) (by rw [(show (nI j + 1) = nI (j + 1) from ((g_add (rfl : nI j = nI j) (show (1 : Int32) = nI 1 from rfl))).trans (congrArg nI (by omega)))]) rfl rfl ?_
      exact o3 h1 h2

noncomputable def coP (S : Nat → Int32) (k n v : Nat) : Bool := rcB S k (hmN S k) (stN S k) (sn S 8 + n) v
noncomputable def coneR (S : Nat → Int32) (x y : Int32) : Nat × Int32 := if okx x (sn S 1) then (if okr y 0 200 then (0, nI (bset (coP S x.toNatClampNeg y.toNatClampNeg) (sn S 0))) else (2, 0)) else (1, 0)
theorem bs_t {P : Nat → Bool} {j : Nat} (h : P j = true) : bset P (j + 1) = bset P j ||| 2 ^ j := if_pos h
theorem bs_f {P : Nat → Bool} {j : Nat} (h : P j = false) : bset P (j + 1) = bset P j := if_neg (by rw [h]; decide)
theorem s_93 {X : Nat × (Nat → Int32)} {d : Nat} {p : Nat → Nat} {sg : Mg} {B : Nat} {S : Nat → Int32} (hI : Inv B S) (hL : cwL 250 sg S) (hD : cwD 200 sg S) (hW : LW S sg) {k n : Nat} (hk : k < sn S 1) (hn : n ≤ 200) : gF X (d + 9) 93 [vR 8, vI (nI k), vI (nI n)] p sg (fun r => ∃ s, WY sg s ∧ r = gRv p s (nI (bset (coP S k n) (sn S 0)))) := by
  have b0 := hI.b0; have b1 := hI.b1; have b8 := hI.b8
  refine g_in (cd := k_93) (nL := 5) (rc := 10) rfl (g_A (a := 8) (kd := 0) (n := 9) rfl (by decide)) (g_c1 rfl) (b_93_0 hI hL hD hW (by omega) hn hk (fun s1 h1 s2 h2 => ?_))
  have w2 : WY sg s2 := (WY.bg h1).tr (WY.sf h2.1)
  obtain ⟨F, hM, hP1, hP2⟩ := h2.2.2
  have key := g_upI (P := fun j => gW X (d + 8) k_93 14 [some (vR 8), some (vI (nI k)), some (vI (nI n)), some (vI (nI (bset (coP S k n) j))), some (vI (nI j))] [] p s2 (fun r => ∃ s, WY sg s ∧ r = gRv p s (nI (bset (coP S k n) (sn S 0))))) (I := fun _ => True) (n := sn S 0) (a := 0) (by omega) trivial ?_ ?_
  · exact key
  · intro j _ hj _ ih
    have ih := ih trivial
    have m := hM j (by omega)
    have bw := bset_up (P := coP S k n) (n := j) (m := 6) (by omega)
    refine b_93_14 hI (w2.L hL) (w2.D hD) (by omega) (by omega) (fun h => by omega) (fun _ h => ?_) (fun _ h => ?_)
    · rw [m.1, show (2000000000 : Int32) = nI 2000000000 from rfl, nI_eq (by omega) (by omega)] at h
      rw [← bs_f (P := coP S k n) (rcB_f.mpr (fun hR => by have := hP2 _ j hj (Nat.le_refl _) hR; omega))]
      exact ih
    · rw [m.1, show (2000000000 : Int32) = nI 2000000000 from rfl, nI_eq (by omega) (by omega)] at h
      have hF := (hP1 j hj).resolve_left h
      rw [nI_orbit (by omega), ← bs_t (P := coP S k n) (rcB_t.mpr (hF.2.mono hF.1))]
      exact ih
  · intro _
    have bw := bset_up (P := coP S k n) (n := sn S 0) (m := 6) (by omega)
    exact b_93_14 hI (w2.L hL) (w2.D hD) (by omega) (by omega) (fun _ => ⟨s2, w2, rfl⟩) (fun h => by omega) (fun h => by omega)
theorem c_cone {X : Nat × (Nat → Int32)} {d : Nat} {p : Nat → Nat} {sg : Mg} {B : Nat} {A : AS} (hI : RI B A) (hR : RC A p sg) {x y : Int32} : gF X (d + 10) 163 [vR 0, vI x, vI y] p sg (cR A A (fun c => if c = 1 then 2 else 0) (coneR A.S x y) sg) := by
  have b1 := hI.1.b1
  refine g_in (cd := k_163) (nL := 3) (rc := 12) rfl (g_A (a := 0) (kd := 0) (n := 11) rfl (by decide)) (g_c1 rfl) (b_163_0 hI.1 hR.2.1.1 hR.2.1.2.1 (fun k ek hk n en hn => ?_) (fun k ek hk h => ?_) (fun h => ?_))
  · subst ek en
    refine g_pure 4 (i' := 12) (lv' := [some (vR 0), some (vI (nI k)), some (vI (nI n))]) (st' := [vI (nI n), vI (nI k), vR 8]) rfl ?_
    refine g_cV1E rfl (args := [vR 8, vI (nI k), vI (nI n)]) (rest := []) rfl rfl rfl (s_93 (d := d) hI.1 hR.2.1.1 hR.2.1.2.1 (hR.W hI) hk hn.2) (fun s h9 => ?_)
    refine g_iret rfl (cR_v (hR.wy hI h9) (fun c hc => h9 c (by omega) (by omega) (by omega) (by omega)) ?_)
    unfold coneR
    rw [if_pos ((okx_nI (by omega)).mpr (by omega)), if_pos ((okr_nI (by omega) (by omega) (by omega)).mpr hn), nI_clamp (by omega), nI_clamp (by omega)]
  · subst ek
    refine cR_x hR (fun _ _ => rfl) (c := 1) ?_ rfl
    unfold coneR
    rw [if_pos ((okx_nI (by omega)).mpr (by omega)), if_neg (show ¬ okr y 0 200 from h)]
  · refine cR_x hR (fun _ _ => rfl) (c := 0) ?_ rfl
    unfold coneR
    rw [if_neg h]
theorem m_cone {X : Nat × (Nat → Int32)} {d : Nat} {p : Nat → Nat} {sg : Mg} {B : Nat} {A : AS} (hI : RI B A) (hR : RM A sg) {x y : Int32} : gF X (d + 11) 283 [vR 800, vI x, vI y] p sg (mR A A (coneR A.S x y) p sg) := by
  have b0 := hI.1.b0; have b1 := hI.1.b1; have b8 := hI.1.b8
  refine g_in (cd := k_283) (nL := 5) (rc := 13) rfl (g_A (a := 800) (kd := 0) (n := 12) rfl (by decide)) (g_c1 rfl) (b_283_0 hI.1 hR.1 (fun s1 f1 h s3 f3 => ?_) (fun s1 f1 k ek hk n en hn => ?_) (fun s1 f1 k ek hk h s3 f3 => ?_))
  · refine mR_x ((hR.th f1).th f3) (fun c hc => by rw [f3, f1, up_hi hc, up_hi hc]) (c := 0) (by rw [f3, mu_self]) ?_
    unfold coneR
    rw [if_neg h]
  · subst ek en
    have hR1 := hR.th f1
    refine g_pure 2 (i' := 26) (lv' := [some (vR 800), some (vI (nI k)), some (vI (nI n)), none, none]) (st' := [vI (nI k), vR 800]) rfl ?_
    refine g_cV0E rfl (args := [vR 800, vI (nI k)]) (rest := []) rfl rfl rfl (s_273 (d := d) hI.1 hR1.1 hI.2.2.1 hk) (fun s h9 => ?_)
    obtain ⟨hs, C, hC, hP⟩ := h9
    have hRs : RM A s := hR1.sr (fun c c1 c2 c3 c4 c5 => hs c c1 (by omega))
    have hh : ∀ c, c < 800 ∨ 900 ≤ c → s c = sg c := fun c hc => by rw [hs c (by omega) (by omega), f1, up_hi hc]
    have h0 : s 800 0 = 0 := by rw [hs 800 (by decide) (by decide), f1, mu_self]
    refine g_pure 4 (i' := 31) (lv' := [some (vR 800), some (vI (nI k)), some (vI (nI n)), some (vI (nI 0)), some (vI (nI 0))]) (st' := []) rfl ?_
    have key := g_upI (P := fun j => gW X (d + 10) k_283 31 [some (vR 800), some (vI (nI k)), some (vI (nI n)), some (vI (nI (bset (coP A.S k n) j))), some (vI (nI j))] [] p s (mR A A (coneR A.S (nI k) (nI n)) p sg)) (I := fun _ => True) (n := sn A.S 0) (a := 0) (by omega) trivial ?_ ?_
    · exact key
    · intro j _ hj _ ih
      have ih := ih trivial
      have bw := bset_up (P := coP A.S k n) (n := j) (m := 6) (by omega)
      refine b_283_31 hI.1 hRs.1 hC hn.2 (by omega) (by omega) (fun h => by omega) (fun _ h => ?_) (fun _ h => ?_)
      · rw [show (nI (bset (coP A.S k n) j) ||| 0) = nI (bset (coP A.S k n) (j + 1)) by rw [bs_f (P := coP A.S k n) (rcB_f.mpr (fun hR => h ((hP n j hn.2 hj).mpr hR)))]; simp]
        exact ih
      · rw [nI_orbit (by omega), ← bs_t (P := coP A.S k n) (rcB_t.mpr ((hP n j hn.2 hj).mp h))]
        exact ih
    · intro _
      have bw := bset_up (P := coP A.S k n) (n := sn A.S 0) (m := 6) (by omega)
      refine b_283_31 hI.1 hRs.1 hC hn.2 (by omega) (by omega) (fun _ => mR_v hRs hh h0 ?_) (fun h => by omega) (fun h => by omega)
      unfold coneR
      rw [if_pos ((okx_nI (by omega)).mpr (by omega)), if_pos ((okr_nI (by omega) (by omega) (by omega)).mpr hn), nI_clamp (by omega), nI_clamp (by omega)]
  · subst ek
    refine mR_x ((hR.th f1).th f3) (fun c hc => by rw [f3, f1, up_hi hc, up_hi hc]) (c := 1) (by rw [f3, mu_self]) ?_
    unfold coneR
    rw [if_pos ((okx_nI (by omega)).mpr (by omega)), if_neg (show ¬ okr y 0 200 from h)]
