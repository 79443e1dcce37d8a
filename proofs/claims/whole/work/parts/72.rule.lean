/-! RULE, and where a road leads (made by wip/whole/gen72.py) -/
theorem cR_v {A A' : AS} {p : Nat → Nat} {ex : Nat → Nat} {cv : Nat × Int32} {sg s : Mg} {v : Int32} (hR : RC A' p s) (h8 : ∀ c, 800 ≤ c → s c = sg c) (h : cv = (0, v)) : cR A A' ex cv sg (gRv p s v) := by
  subst h
  exact ⟨p, s, h8, Or.inl ⟨rfl, hR, rfl⟩⟩
theorem cR_x {A A' : AS} {p : Nat → Nat} {ex : Nat → Nat} {cv : Nat × Int32} {sg s : Mg} {c e : Nat} (hR : RC A p s) (h8 : ∀ c, 800 ≤ c → s c = sg c) (h : cv.1 = c + 1) (he : ex (c + 1) = e) : cR A A' ex cv sg (gRx p s e) :=
  ⟨p, s, h8, Or.inr ⟨by omega, hR, by rw [h, he]⟩⟩
theorem mR_v {A A' : AS} {p : Nat → Nat} {cv : Nat × Int32} {sg s : Mg} {v : Int32} (hR : RM A' s) (h8 : ∀ c, c < 800 ∨ 900 ≤ c → s c = sg c) (h0 : s 800 0 = 0) (h : cv = (0, v)) : mR A A' cv p sg (gRv p s v) := by
  subst h
  exact ⟨s, v, h8, h0, fun _ => rfl, hR, rfl⟩
theorem mR_x {A A' : AS} {p : Nat → Nat} {cv : Nat × Int32} {sg s : Mg} {v : Int32} {c : Nat} (hR : RM A s) (h8 : ∀ c, c < 800 ∨ 900 ≤ c → s c = sg c) (h0 : s 800 0 = nI (c + 1)) (h : cv.1 = c + 1) : mR A A' cv p sg (gRv p s v) :=
  ⟨s, v, h8, by rw [h]; exact h0, fun h9 => by omega, by rw [if_neg (by omega)]; exact hR, rfl⟩
/-- beside the scene and the stack nothing has changed -/
def scE (sg s : Mg) : Prop := ∀ c, c ≠ 201 → c ≠ 213 → s c = sg c
theorem scE.rf (sg : Mg) : scE sg sg := fun _ _ _ => rfl
theorem RC.sc {A : AS} {p : Nat → Nat} {sg s : Mg} (hR : RC A p sg) {B : Nat} (hI : RI B A) (h : scE sg s) : RC A p s := hR.ext hI.2.2.2.1 (fun c hc => h c (by unfold relC at hc; omega) (by unfold relC at hc; omega))
theorem scE.hi {sg s : Mg} (h : scE sg s) : ∀ c, 800 ≤ c → s c = sg c := fun c _ => h c (by omega) (by omega)
/-- .. and of the reference nothing but what it says was thrown, and the stack -/
theorem RM.sc {A : AS} {sg s : Mg} (hR : RM A sg) (h : ∀ c, c ≠ 800 → c ≠ 807 → s c = sg c) (h2 : ∀ k, k ≠ 0 → s 800 k = sg 800 k) : RM A s := hR.ext (fun c hc => h c (by omega) (by omega)) (fun k hk => h2 k (by omega))
theorem RM.th {A : AS} {sg s : Mg} (hR : RM A sg) {x : Int32} (h : s = mu sg 800 0 x) : RM A s := by subst h; exact hR.mu0 x
theorem RM.th2 {A : AS} {sg s s2 : Mg} (hR : RM A sg) {x : Int32} (h : s = mu sg 800 0 x) (f : ∃ f, s2 = va_up s 807 f) : RM A s2 := by
  subst h
  obtain ⟨f, rfl⟩ := f
  exact (hR.mu0 x).ext (fun c hc => va_up_ne _ _ (by omega)) (fun k hk => congrFun (va_up_ne _ _ (by decide)) k)
theorem up_hi {sg : Mg} {x : Int32} {c : Nat} (h : c < 800 ∨ 900 ≤ c) : mu sg 800 0 x c = sg c := mu_ne (by omega)
/-! rule -/
def ruleR (S : Nat → Int32) (x y z : Int32) : Nat × Int32 := if okx x (sn S 1) then (if okx y (sn S 0) then (if okr z 0 2 then (0, if z = 2 then nI (gsm S (scf S x.toNatClampNeg y.toNatClampNeg (sn S 8)) 2 (nln S)) else if brd S (scf S x.toNatClampNeg y.toNatClampNeg (sn S 8)) z.toNatClampNeg = true then 1 else 0) else (2, 0)) else (1, 0)) else (1, 0)

theorem b_151_0 {X : Nat × (Nat → Int32)} {d : Nat} {p : Nat → Nat} {sg : Mg} {Q : am_R → Prop} {B : Nat} {S : Nat → Int32} (hI : Inv B S) (hL : cwL 250 sg S) (hD : cwD 200 sg S) (hW : LW S sg) {x : Int32} {y : Int32} {z : Int32}
    (o1 : ∀ n2 : Nat, x = nI n2 → n2 < sn S 1 → ∀ n4 : Nat, y = nI n4 → n4 < sn S 0 → z = nI 0 → ∀ s7 : Mg, (∀ c, c ≠ 201 → c ≠ 213 → s7 c = sg c) → (¬ (brd S (scf S n2 n4 (sn S 8)) 0 = true)) → Q (gRv p s7 0))
    (o2 : ∀ n2 : Nat, x = nI n2 → n2 < sn S 1 → ∀ n4 : Nat, y = nI n4 → n4 < sn S 0 → z = nI 0 → ∀ s7 : Mg, (∀ c, c ≠ 201 → c ≠ 213 → s7 c = sg c) → ((brd S (scf S n2 n4 (sn S 8)) 0 = true)) → Q (gRv p s7 1))
    (o3 : ∀ n2 : Nat, x = nI n2 → n2 < sn S 1 → ∀ n4 : Nat, y = nI n4 → n4 < sn S 0 → z = nI 1 → ∀ s9 : Mg, (∀ c, c ≠ 201 → c ≠ 213 → s9 c = sg c) → (¬ (brd S (scf S n2 n4 (sn S 8)) 1 = true)) → Q (gRv p s9 0))
    (o4 : ∀ n2 : Nat, x = nI n2 → n2 < sn S 1 → ∀ n4 : Nat, y = nI n4 → n4 < sn S 0 → z = nI 1 → ∀ s9 : Mg, (∀ c, c ≠ 201 → c ≠ 213 → s9 c = sg c) → ((brd S (scf S n2 n4 (sn S 8)) 1 = true)) → Q (gRv p s9 1))
    (o5 : ∀ n2 : Nat, x = nI n2 → n2 < sn S 1 → ∀ n4 : Nat, y = nI n4 → n4 < sn S 0 → z = nI 2 → ∀ s11 : Mg, (∀ c, c ≠ 201 → c ≠ 213 → s11 c = sg c) → Q (gRv p s11 (nI (gsm S (scf S n2 n4 (sn S 8)) 2 (nln S)))))
    (o6 : ∀ n2 : Nat, x = nI n2 → n2 < sn S 1 → ∀ n4 : Nat, y = nI n4 → n4 < sn S 0 → (¬ (¬ (z < 0) ∧ ¬ (2 < z))) → Q (gRx p sg 3))
    (o7 : ∀ n2 : Nat, x = nI n2 → n2 < sn S 1 → (¬ okx y (sn S 0)) → Q (gRx p sg 2))
    (o8 : (¬ okx x (sn S 1)) → Q (gRx p sg 2)) :
    gW X (d + 6) k_151 0 [some (vR 0), some (vI x), some (vI y), some (vI z), none] [] p sg Q := by
  have b0 := hI.b0; have b1 := hI.b1; have b2 := hI.b2; have b3 := hI.b3; have b4 := hI.b4; have b5 := hI.b5; have b6 := hI.b6; have b7 := hI.b7; have b8 := hI.b8; have b9 := hI.b9; have b14 := hI.b14
  refine g_pure 3 (i' := 3) (lv' := [some (vR 0), some (vI x), some (vI y), some (vI z), none]) (st' := [vI x, vI 1, vR 0]) rfl ?_
  by_cases h1 : okx x (sn S 1)
  · obtain ⟨n2, ln2, en2⟩ := okx_of h1
    subst en2
    refine gW_eq (st' := [vI (nI n2), vI (nI 1), vR 0]) rfl (by rw [(show (1 : Int32) = nI 1 from rfl)]) rfl ?_
    refine g_cV0 rfl (args := [vR 0, vI (nI 1), vI (nI n2)]) (rest := []) rfl rfl rfl (s_140o (d := d + 4) hI hL hD (by omega) ((okx_nI (by omega)).mpr (by omega))) ?_
    refine g_pure 3 (i' := 7) (lv' := [some (vR 0), some (vI (nI n2)), some (vI y), some (vI z), none]) (st' := [vI y, vI 0, vR 0]) rfl ?_
    by_cases h3 : okx y (sn S 0)
    · obtain ⟨n4, ln4, en4⟩ := okx_of h3
      subst en4
      refine gW_eq (st' := [vI (nI n4), vI (nI 0), vR 0]) rfl (by rw [(show (0 : Int32) = nI 0 from rfl)]) rfl ?_
      refine g_cV0 rfl (args := [vR 0, vI (nI 0), vI (nI n4)]) (rest := []) rfl rfl rfl (s_140o (d := d + 4) hI hL hD (by omega) ((okx_nI (by omega)).mpr (by omega))) ?_
      refine g_pure 3 (i' := 11) (lv' := [some (vR 0), some (vI (nI n2)), some (vI (nI n4)), some (vI z), none]) (st' := [vR 250]) rfl ?_
      refine g_getI rfl (g_A (a := 250) (kd := 0) (n := 6) rfl (by decide)) (show _ = S 8 from hL.f12) ?_
      refine g_pure 2 (i' := 14) (lv' := [some (vR 0), some (vI (nI n2)), some (vI (nI n4)), some (vI z), some (vI (S 8))]) (st' := [vI z]) rfl ?_
      by_cases h5 : (¬ (z < 0) ∧ ¬ (2 < z))
      · obtain ⟨n6, ln6, en6⟩ := okr_of (lo := 0) (hi := 2) (by decide) h5
        rcases (show n6 = 0 ∨ n6 = 1 ∨ n6 = 2 by omega) with rfl | rfl | rfl
        · subst en6
          refine g_swK (i' := 15) (k := 0) rfl rfl (by decide) rfl ?_
          refine g_pure 5 (i' := 20) (lv' := [some (vR 0), some (vI (nI n2)), some (vI (nI n4)), some (vI (nI 0)), some (vI (S 8))]) (st' := [vI (S 8), vI (nI n4), vI (nI n2), vR 200]) rfl ?_
          refine gW_eq (lv' := [some (vR 0), some (vI (nI n2)), some (vI (nI n4)), some (vI 0), some (vI (S 8))]) (st' := [vI (S 8), vI (nI n4), vI (nI n2), vR 200]) (by rw [(show (nI 0 : Int32) = 0 from rfl)]) rfl rfl ?_
          refine gW_eq (st' := [vI (nI (sn S 8)), vI (nI n4), vI (nI n2), vR 200]) rfl (by rw [(show S 8 = nI (sn S 8) from (hI.c8))]) rfl ?_
          refine g_cV1E rfl (args := [vR 200, vI (nI n2), vI (nI n4), vI (nI (sn S 8))]) (rest := []) rfl rfl rfl (s_113 (d := d + 1) hI hL hD hW (by omega) (by omega) (by omega)) (fun s7 es7 => ?_)
          have hLs7 : cwL 250 s7 S := (hL).eqc (fun c h1 h2 => es7 c (by omega) (by omega))
          have hDs7 : cwD 200 s7 S := (hD).eqc (fun c h1 => es7 c (by omega) (by omega))
          refine g_if1 (i' := 24) (P := ¬ (brd S (scf S n2 n4 (sn S 8)) 0 = true)) rfl rfl g_eqB (fun h8 => ?_) (fun h8 => ?_)
          · refine g_pure 1 (i' := 25) (lv' := [some (vR 0), some (vI (nI n2)), some (vI (nI n4)), some (vI 0), some (vI (S 8))]) (st' := [vI 0]) rfl ?_
            refine g_iret rfl ?_
            exact o1 n2 rfl ln2 n4 rfl ln4 rfl s7 es7 h8
          · have h8 := Classical.not_not.mp h8
            refine g_pure 2 (i' := 25) (lv' := [some (vR 0), some (vI (nI n2)), some (vI (nI n4)), some (vI 0), some (vI (S 8))]) (st' := [vI 1]) rfl ?_
            refine g_iret rfl ?_
            exact o2 n2 rfl ln2 n4 rfl ln4 rfl s7 es7 h8
        · subst en6
          refine g_swK (i' := 26) (k := 1) rfl rfl (by decide) rfl ?_
          refine g_pure 5 (i' := 31) (lv' := [some (vR 0), some (vI (nI n2)), some (vI (nI n4)), some (vI (nI 1)), some (vI (S 8))]) (st' := [vI (S 8), vI (nI n4), vI (nI n2), vR 200]) rfl ?_
          refine gW_eq (lv' := [some (vR 0), some (vI (nI n2)), some (vI (nI n4)), some (vI 1), some (vI (S 8))]) (st' := [vI (S 8), vI (nI n4), vI (nI n2), vR 200]) (by rw [(show (nI 1 : Int32) = 1 from rfl)]) rfl rfl ?_
          refine gW_eq (st' := [vI (nI (sn S 8)), vI (nI n4), vI (nI n2), vR 200]) rfl (by rw [(show S 8 = nI (sn S 8) from (hI.c8))]) rfl ?_
          refine g_cV1E rfl (args := [vR 200, vI (nI n2), vI (nI n4), vI (nI (sn S 8))]) (rest := []) rfl rfl rfl (s_115 (d := d + 1) hI hL hD hW (by omega) (by omega) (by omega)) (fun s9 es9 => ?_)
          have hLs9 : cwL 250 s9 S := (hL).eqc (fun c h1 h2 => es9 c (by omega) (by omega))
          have hDs9 : cwD 200 s9 S := (hD).eqc (fun c h1 => es9 c (by omega) (by omega))
          refine g_if1 (i' := 35) (P := ¬ (brd S (scf S n2 n4 (sn S 8)) 1 = true)) rfl rfl g_eqB (fun h10 => ?_) (fun h10 => ?_)
          · refine g_pure 1 (i' := 36) (lv' := [some (vR 0), some (vI (nI n2)), some (vI (nI n4)), some (vI 1), some (vI (S 8))]) (st' := [vI 0]) rfl ?_
            refine g_iret rfl ?_
            exact o3 n2 rfl ln2 n4 rfl ln4 rfl s9 es9 h10
          · have h10 := Classical.not_not.mp h10
            refine g_pure 2 (i' := 36) (lv' := [some (vR 0), some (vI (nI n2)), some (vI (nI n4)), some (vI 1), some (vI (S 8))]) (st' := [vI 1]) rfl ?_
            refine g_iret rfl ?_
            exact o4 n2 rfl ln2 n4 rfl ln4 rfl s9 es9 h10
        · subst en6
          refine g_swK (i' := 37) (k := 2) rfl rfl (by decide) rfl ?_
          refine g_pure 5 (i' := 42) (lv' := [some (vR 0), some (vI (nI n2)), some (vI (nI n4)), some (vI (nI 2)), some (vI (S 8))]) (st' := [vI (S 8), vI (nI n4), vI (nI n2), vR 200]) rfl ?_
          refine gW_eq (lv' := [some (vR 0), some (vI (nI n2)), some (vI (nI n4)), some (vI 2), some (vI (S 8))]) (st' := [vI (S 8), vI (nI n4), vI (nI n2), vR 200]) (by rw [(show (nI 2 : Int32) = 2 from rfl)]) rfl rfl ?_
          refine gW_eq (st' := [vI (nI (sn S 8)), vI (nI n4), vI (nI n2), vR 200]) rfl (by rw [(show S 8 = nI (sn S 8) from (hI.c8))]) rfl ?_
          refine g_cV1E rfl (args := [vR 200, vI (nI n2), vI (nI n4), vI (nI (sn S 8))]) (rest := []) rfl rfl rfl (s_116 (d := d + 1) hI hL hD hW (by omega) (by omega) (by omega)) (fun s11 es11 => ?_)
          have hLs11 : cwL 250 s11 S := (hL).eqc (fun c h1 h2 => es11 c (by omega) (by omega))
          have hDs11 : cwD 200 s11 S := (hD).eqc (fun c h1 => es11 c (by omega) (by omega))
          have t12 := gsm_lt hW.1 (sc := scf S n2 n4 (sn S 8)) 2
          refine g_iret rfl ?_
          exact o5 n2 rfl ln2 n4 rfl ln4 rfl s11 es11
      · refine g_swD (i' := 44) rfl (okr_out (lo := 0) (hi := 2) (by decide) h5) rfl ?_
        refine g_thr' rfl rfl ?_
        exact o6 n2 rfl ln2 n4 rfl ln4 h5
    · refine gW_eq (st' := [vI y, vI (nI 0), vR 0]) rfl (by rw [(show (0 : Int32) = nI 0 from rfl)]) rfl ?_
      refine g_cVx rfl (args := [vR 0, vI (nI 0), vI y]) (rest := []) rfl rfl rfl (s_140x (d := d + 4) hI hL hD (by omega) (by assumption)) ?_
      exact o7 n2 rfl ln2 h3
  · refine gW_eq (st' := [vI x, vI (nI 1), vR 0]) rfl (by rw [(show (1 : Int32) = nI 1 from rfl)]) rfl ?_
    refine g_cVx rfl (args := [vR 0, vI (nI 1), vI x]) (rest := []) rfl rfl rfl (s_140x (d := d + 4) hI hL hD (by omega) (by assumption)) ?_
    exact o8 h1

theorem b_247_0 {X : Nat × (Nat → Int32)} {d : Nat} {p : Nat → Nat} {sg : Mg} {Q : am_R → Prop} {B : Nat} {S : Nat → Int32} (hI : Inv B S) (hS : sg 801 = S) (hA : InvA S) {x : Int32} {y : Int32} {z : Int32}
    (o1 : ∀ s1 : Mg, s1 = mu sg 800 0 0 → (¬ okx x (sn S 1)) → ∀ s3 : Mg, s3 = mu s1 800 0 (nI 1) → Q (gRv p s3 0))
    (o2 : ∀ s1 : Mg, s1 = mu sg 800 0 0 → ∀ n5 : Nat, x = nI n5 → n5 < sn S 1 → ∀ n7 : Nat, y = nI n7 → n7 < sn S 0 → ∀ n10 : Nat, z = nI n10 → 0 ≤ n10 ∧ n10 ≤ 2 → ∀ s12 : Mg, (∃ f, s12 = va_up s1 807 f) → (¬ n10 = 2) → Q (gRv p s12 (nI (min 1 (gsm S (scf S n5 n7 (sn S 8)) n10 (nln S))))))
    (o3 : ∀ s1 : Mg, s1 = mu sg 800 0 0 → ∀ n5 : Nat, x = nI n5 → n5 < sn S 1 → ∀ n7 : Nat, y = nI n7 → n7 < sn S 0 → ∀ n10 : Nat, z = nI n10 → 0 ≤ n10 ∧ n10 ≤ 2 → ∀ s12 : Mg, (∃ f, s12 = va_up s1 807 f) → (n10 = 2) → Q (gRv p s12 (nI (gsm S (scf S n5 n7 (sn S 8)) n10 (nln S)))))
    (o4 : ∀ s1 : Mg, s1 = mu sg 800 0 0 → ∀ n5 : Nat, x = nI n5 → n5 < sn S 1 → ∀ n7 : Nat, y = nI n7 → n7 < sn S 0 → (¬ (¬ (z < 0) ∧ ¬ (2 < z))) → ∀ s17 : Mg, s17 = mu s1 800 0 (nI 2) → Q (gRv p s17 0))
    (o5 : ∀ s1 : Mg, s1 = mu sg 800 0 0 → ∀ n5 : Nat, x = nI n5 → n5 < sn S 1 → (¬ okx y (sn S 0)) → ∀ s19 : Mg, s19 = mu s1 800 0 (nI 1) → Q (gRv p s19 0)) :
    gW X (d + 7) k_247 0 [some (vR 800), some (vI x), some (vI y), some (vI z), none] [] p sg Q := by
  have b0 := hI.b0; have b1 := hI.b1; have b2 := hI.b2; have b3 := hI.b3; have b4 := hI.b4; have b5 := hI.b5; have b6 := hI.b6; have b7 := hI.b7; have b8 := hI.b8; have b9 := hI.b9; have b14 := hI.b14
  refine g_pure 2 (i' := 2) (lv' := [some (vR 800), some (vI x), some (vI y), some (vI z), none]) (st' := [vI 0, vR 800]) rfl ?_
  refine g_putI rfl (g_A (a := 800) (kd := 0) (n := 12) rfl (by decide)) ?_
  refine g_setv (fun s1 es1 => ?_)
  have hSs1 : s1 801 = S := by rw [es1, mu_ne (by decide), hS]
  refine g_pure 3 (i' := 6) (lv' := [some (vR 800), some (vI x), some (vI y), some (vI z), none]) (st' := [vI x, vR 800, vR 800]) rfl ?_
  refine g_cV1 rfl (args := [vR 800, vI x]) (rest := [vR 800]) rfl rfl rfl (s_237 (d := d + 5) hI hSs1) ?_
  refine g_if1 (i' := 12) (P := ¬ okx x (sn S 1)) rfl rfl g_neB (fun h2 => ?_) (fun h2 => ?_)
  · refine g_pure 3 (i' := 16) (lv' := [some (vR 800), some (vI x), some (vI y), some (vI z), none]) (st' := [vI 1, vI 1, vR 800]) rfl ?_
    refine gW_eq (st' := [vI (nI 1), vI 1, vR 800]) rfl (by rw [(show (1 : Int32) = nI 1 from rfl)]) rfl ?_
    refine g_cV1 rfl (args := [vR 800, vI 1, vI (nI 1)]) (rest := []) rfl rfl rfl (s_227t (d := d + 6) (by omega)) ?_
    refine g_setv (fun s3 es3 => ?_)
    have hSs3 : s3 801 = S := by rw [es3, mu_ne (by decide), hSs1]
    refine g_if1 (i' := 30) (P := ¬ 1 = 0) rfl rfl (g_neN (show 1 = nI 1 from (show (1 : Int32) = nI 1 from rfl)) (show 0 = nI 0 from (show (0 : Int32) = nI 0 from rfl)) (by omega) (by omega)) (fun _ => ?_) (fun h4 => absurd (by omega) h4)
    refine g_pure 1 (i' := 31) (lv' := [some (vR 800), some (vI x), some (vI y), some (vI z), none]) (st' := [vI 0]) rfl ?_
    refine g_iret rfl ?_
    exact o1 s1 es1 h2 s3 es3
  · have h2 := Classical.not_not.mp h2
    obtain ⟨n5, ln5, en5⟩ := okx_of h2
    subst en5
    refine g_pure 2 (i' := 10) (lv' := [some (vR 800), some (vI (nI n5)), some (vI y), some (vI z), none]) (st' := [vI y, vR 800, vR 800]) rfl ?_
    refine g_cV1 rfl (args := [vR 800, vI y]) (rest := [vR 800]) rfl rfl rfl (s_230 (d := d + 5) hI hSs1) ?_
    refine g_if1 (i' := 14) (P := okx y (sn S 0)) rfl rfl (g_eqB.trans Classical.not_not) (fun h6 => ?_) (fun h6 => ?_)
    · obtain ⟨n7, ln7, en7⟩ := okx_of h6
      subst en7
      refine g_pure 2 (i' := 16) (lv' := [some (vR 800), some (vI (nI n5)), some (vI (nI n7)), some (vI z), none]) (st' := [vI 1, vI 0, vR 800]) rfl ?_
      refine gW_eq (st' := [vI (nI 1), vI 0, vR 800]) rfl (by rw [(show (1 : Int32) = nI 1 from rfl)]) rfl ?_
      refine g_cV1 rfl (args := [vR 800, vI 0, vI (nI 1)]) (rest := []) rfl rfl rfl (s_227f (d := d + 6) (by omega)) ?_
      refine g_if1 (i' := 30) (P := ¬ 0 = 0) rfl rfl (g_neN (show 0 = nI 0 from (show (0 : Int32) = nI 0 from rfl)) (show 0 = nI 0 from (show (0 : Int32) = nI 0 from rfl)) (by omega) (by omega)) (fun h8 => absurd h8 (by omega)) (fun _ => ?_)
      refine g_pure 4 (i' := 22) (lv' := [some (vR 800), some (vI (nI n5)), some (vI (nI n7)), some (vI z), none]) (st' := [vI 2, vI 0, vI z, vR 800]) rfl ?_
      refine g_cS1 rfl (args := [vI z, vI 0, vI 2]) (rest := [vR 800]) rfl rfl rfl (s_231 (d := d + 6) ) ?_
      refine g_if1 (i' := 26) (P := (¬ (z < 0) ∧ ¬ (2 < z))) rfl rfl g_neB (fun h9 => ?_) (fun h9 => ?_)
      · obtain ⟨n10, ln10, en10⟩ := okr_of (lo := 0) (hi := 2) (by decide) h9
        subst en10
        refine g_pure 2 (i' := 28) (lv' := [some (vR 800), some (vI (nI n5)), some (vI (nI n7)), some (vI (nI n10)), none]) (st' := [vI 2, vI 0, vR 800]) rfl ?_
        refine gW_eq (st' := [vI (nI 2), vI 0, vR 800]) rfl (by rw [(show (2 : Int32) = nI 2 from rfl)]) rfl ?_
        refine g_cV1 rfl (args := [vR 800, vI 0, vI (nI 2)]) (rest := []) rfl rfl rfl (s_227f (d := d + 6) (by omega)) ?_
        refine g_if1 (i' := 32) (P := 0 = 0) rfl rfl (g_eqN (show 0 = nI 0 from (show (0 : Int32) = nI 0 from rfl)) (show 0 = nI 0 from (show (0 : Int32) = nI 0 from rfl)) (by omega) (by omega)) (fun _ => ?_) (fun h11 => absurd (by omega) h11)
        refine g_pure 5 (i' := 37) (lv' := [some (vR 800), some (vI (nI n5)), some (vI (nI n7)), some (vI (nI n10)), none]) (st' := [vR 800, vI (nI n7), vI (nI n5), vI (nI n10), vR 800]) rfl ?_
        refine g_cV1 rfl (args := [vR 800]) (rest := [vI (nI n7), vI (nI n5), vI (nI n10), vR 800]) rfl rfl rfl (s_248 (d := d + 6) hSs1) ?_
        refine gW_eq (st' := [vI (nI (sn S 8)), vI (nI n7), vI (nI n5), vI (nI n10), vR 800]) rfl (by rw [(show S 8 = nI (sn S 8) from (hI.c8))]) rfl ?_
        refine g_cV1E rfl (args := [vR 800, vI (nI n10), vI (nI n5), vI (nI n7), vI (nI (sn S 8))]) (rest := []) rfl rfl rfl (s_249 (d := d + 1) hI hSs1 hA (by omega) (by omega) (by omega) (by omega)) (fun s12 es12 => ?_)
        have hSs12 : s12 801 = S := by obtain ⟨f9, h9⟩ := es12; rw [h9, va_up_ne _ _ (by decide)]; exact hSs1
        have t13 := gsm_lt hA (sc := scf S n5 n7 (sn S 8)) n10
        refine g_pure 3 (i' := 42) (lv' := [some (vR 800), some (vI (nI n5)), some (vI (nI n7)), some (vI (nI n10)), some (vI (nI (gsm S (scf S n5 n7 (sn S 8)) n10 (nln S))))]) (st' := [vI 2, vI (nI n10)]) rfl ?_
        refine g_if2 (i' := 45) (P := ¬ n10 = 2) rfl rfl (g_neN (show nI n10 = nI n10 from (rfl : nI n10 = nI n10)) (show 2 = nI 2 from (show (2 : Int32) = nI 2 from rfl)) (by omega) (by omega)) (fun h14 => ?_) (fun h14 => ?_)
        · refine g_pure 2 (i' := 47) (lv' := [some (vR 800), some (vI (nI n5)), some (vI (nI n7)), some (vI (nI n10)), some (vI (nI (gsm S (scf S n5 n7 (sn S 8)) n10 (nln S))))]) (st' := [vI (nI (gsm S (scf S n5 n7 (sn S 8)) n10 (nln S))), vI 1]) rfl ?_
          refine gW_eq (st' := [vI (nI (gsm S (scf S n5 n7 (sn S 8)) n10 (nln S))), vI (nI 1)]) rfl (by rw [(show (1 : Int32) = nI 1 from rfl)]) rfl ?_
          refine g_cS1 rfl (args := [vI (nI 1), vI (nI (gsm S (scf S n5 n7 (sn S 8)) n10 (nln S)))]) (rest := []) rfl rfl rfl (s_313n (d := d + 6) (by omega) (by omega)) ?_
          have t15 := Nat.min_le_left 1 (gsm S (scf S n5 n7 (sn S 8)) n10 (nln S))
          have t16 := Nat.min_le_right 1 (gsm S (scf S n5 n7 (sn S 8)) n10 (nln S))
          refine g_iret rfl ?_
          exact o2 s1 es1 n5 rfl ln5 n7 rfl ln7 n10 rfl ln10 s12 es12 h14
        · have h14 := Classical.not_not.mp h14
          refine g_pure 2 (i' := 48) (lv' := [some (vR 800), some (vI (nI n5)), some (vI (nI n7)), some (vI (nI n10)), some (vI (nI (gsm S (scf S n5 n7 (sn S 8)) n10 (nln S))))]) (st' := [vI (nI (gsm S (scf S n5 n7 (sn S 8)) n10 (nln S)))]) rfl ?_
          refine g_iret rfl ?_
          exact o3 s1 es1 n5 rfl ln5 n7 rfl ln7 n10 rfl ln10 s12 es12 h14
      · refine g_pure 3 (i' := 28) (lv' := [some (vR 800), some (vI (nI n5)), some (vI (nI n7)), some (vI z), none]) (st' := [vI 2, vI 1, vR 800]) rfl ?_
        refine gW_eq (st' := [vI (nI 2), vI 1, vR 800]) rfl (by rw [(show (2 : Int32) = nI 2 from rfl)]) rfl ?_
        refine g_cV1 rfl (args := [vR 800, vI 1, vI (nI 2)]) (rest := []) rfl rfl rfl (s_227t (d := d + 6) (by omega)) ?_
        refine g_setv (fun s17 es17 => ?_)
        have hSs17 : s17 801 = S := by rw [es17, mu_ne (by decide), hSs1]
        refine g_if1 (i' := 32) (P := 1 = 0) rfl rfl (g_eqN (show 1 = nI 1 from (show (1 : Int32) = nI 1 from rfl)) (show 0 = nI 0 from (show (0 : Int32) = nI 0 from rfl)) (by omega) (by omega)) (fun h18 => absurd h18 (by omega)) (fun _ => ?_)
        refine g_pure 1 (i' := 31) (lv' := [some (vR 800), some (vI (nI n5)), some (vI (nI n7)), some (vI z), none]) (st' := [vI 0]) rfl ?_
        refine g_iret rfl ?_
        exact o4 s1 es1 n5 rfl ln5 n7 rfl ln7 h9 s17 es17
    · refine g_pure 3 (i' := 16) (lv' := [some (vR 800), some (vI (nI n5)), some (vI y), some (vI z), none]) (st' := [vI 1, vI 1, vR 800]) rfl ?_
      refine gW_eq (st' := [vI (nI 1), vI 1, vR 800]) rfl (by rw [(show (1 : Int32) = nI 1 from rfl)]) rfl ?_
      refine g_cV1 rfl (args := [vR 800, vI 1, vI (nI 1)]) (rest := []) rfl rfl rfl (s_227t (d := d + 6) (by omega)) ?_
      refine g_setv (fun s19 es19 => ?_)
      have hSs19 : s19 801 = S := by rw [es19, mu_ne (by decide), hSs1]
      refine g_if1 (i' := 30) (P := ¬ 1 = 0) rfl rfl (g_neN (show 1 = nI 1 from (show (1 : Int32) = nI 1 from rfl)) (show 0 = nI 0 from (show (0 : Int32) = nI 0 from rfl)) (by omega) (by omega)) (fun _ => ?_) (fun h20 => absurd (by omega) h20)
      refine g_pure 1 (i' := 31) (lv' := [some (vR 800), some (vI (nI n5)), some (vI y), some (vI z), none]) (st' := [vI 0]) rfl ?_
      refine g_iret rfl ?_
      exact o5 s1 es1 n5 rfl ln5 h6 s19 es19

theorem c_rule {X : Nat × (Nat → Int32)} {d : Nat} {p : Nat → Nat} {sg : Mg} {B : Nat} {A : AS} (hI : RI B A) (hR : RC A p sg) {x y z : Int32} : gF X (d + 7) 151 [vR 0, vI x, vI y, vI z] p sg (cR A A (fun c => if c = 1 then 2 else 3) (ruleR A.S x y z) sg) := by
  have b0 := hI.1.b0; have b1 := hI.1.b1
  refine g_in (cd := k_151) (nL := 5) (rc := 12) rfl (g_A (a := 0) (kd := 0) (n := 11) rfl (by decide)) (g_c1 rfl) (b_151_0 hI.1 hR.2.1.1 hR.2.1.2.1 (hR.W hI) (fun n2 e2 l2 n4 e4 l4 ez s7 f7 h => ?_) (fun n2 e2 l2 n4 e4 l4 ez s7 f7 h => ?_) (fun n2 e2 l2 n4 e4 l4 ez s7 f7 h => ?_) (fun n2 e2 l2 n4 e4 l4 ez s7 f7 h => ?_) (fun n2 e2 l2 n4 e4 l4 ez s7 f7 => ?_) (fun n2 e2 l2 n4 e4 l4 h => ?_) (fun n2 e2 l2 h => ?_) (fun h => ?_))
  iterate 2
    · subst e2 e4 ez
      refine cR_v (hR.sc hI f7) (scE.hi f7) ?_
      unfold ruleR
      rw [if_pos ((okx_nI (by omega)).mpr (by omega)), if_pos ((okx_nI (by omega)).mpr (by omega)), if_pos ((okr_nI (by omega) (by omega) (by omega)).mpr (by omega)), if_neg (by decide)]
      simp (disch := omega) only [nI_clamp]
      first | rw [if_pos h] | rw [if_neg h]
  iterate 2
    · subst e2 e4 ez
      refine cR_v (hR.sc hI f7) (scE.hi f7) ?_
      unfold ruleR
      rw [if_pos ((okx_nI (by omega)).mpr (by omega)), if_pos ((okx_nI (by omega)).mpr (by omega)), if_pos ((okr_nI (by omega) (by omega) (by omega)).mpr (by omega)), if_neg (by decide)]
      simp (disch := omega) only [nI_clamp]
      first | rw [if_pos h] | rw [if_neg h]
  · subst e2 e4 ez
    refine cR_v (hR.sc hI f7) (scE.hi f7) ?_
    unfold ruleR
    rw [if_pos ((okx_nI (by omega)).mpr (by omega)), if_pos ((okx_nI (by omega)).mpr (by omega)), if_pos ((okr_nI (by omega) (by omega) (by omega)).mpr (by omega)), if_pos (show nI 2 = 2 from rfl)]
    simp (disch := omega) only [nI_clamp]
  · subst e2 e4
    refine cR_x hR (fun _ _ => rfl) (c := 1) ?_ rfl
    unfold ruleR
    rw [if_pos ((okx_nI (by omega)).mpr (by omega)), if_pos ((okx_nI (by omega)).mpr (by omega)), if_neg (show ¬ okr z 0 2 from h)]
  · subst e2
    refine cR_x hR (fun _ _ => rfl) (c := 0) ?_ rfl
    unfold ruleR
    rw [if_pos ((okx_nI (by omega)).mpr (by omega)), if_neg h]
  · refine cR_x hR (fun _ _ => rfl) (c := 0) ?_ rfl
    unfold ruleR
    rw [if_neg h]
theorem m_rule {X : Nat × (Nat → Int32)} {d : Nat} {p : Nat → Nat} {sg : Mg} {B : Nat} {A : AS} (hI : RI B A) (hR : RM A sg) {x y z : Int32} : gF X (d + 8) 247 [vR 800, vI x, vI y, vI z] p sg (mR A A (ruleR A.S x y z) p sg) := by
  have b0 := hI.1.b0; have b1 := hI.1.b1
  refine g_in (cd := k_247) (nL := 5) (rc := 13) rfl (g_A (a := 800) (kd := 0) (n := 12) rfl (by decide)) (g_c1 rfl) (b_247_0 hI.1 hR.1 hI.2.2.1 (fun s1 f1 h s3 f3 => ?_) (fun s1 f1 n5 e5 l5 n7 e7 l7 n10 e10 l10 s12 f12 h => ?_) (fun s1 f1 n5 e5 l5 n7 e7 l7 n10 e10 l10 s12 f12 h => ?_) (fun s1 f1 n5 e5 l5 n7 e7 l7 h s17 f17 => ?_) (fun s1 f1 n5 e5 l5 h s19 f19 => ?_))
  · refine mR_x ((hR.th f1).th f3) (fun c hc => by rw [f3, f1, up_hi hc, up_hi hc]) (c := 0) (by rw [f3, mu_self]) ?_
    unfold ruleR
    rw [if_neg h]
  · subst e5 e7 e10
    refine mR_v (hR.th2 f1 f12) (fun c hc => ?_) ?_ ?_
    · obtain ⟨f, rfl⟩ := f12; rw [va_up_ne _ _ (by omega), f1, up_hi hc]
    · obtain ⟨f, rfl⟩ := f12; rw [va_up_ne _ _ (by decide), f1, mu_self]
    · unfold ruleR
      rw [if_pos ((okx_nI (by omega)).mpr (by omega)), if_pos ((okx_nI (by omega)).mpr (by omega)), if_pos ((okr_nI (by omega) (by omega) (by omega)).mpr l10), if_neg (by rw [show (2 : Int32) = nI 2 from rfl, nI_eq (by omega) (by omega)]; exact h)]
      simp (disch := omega) only [nI_clamp]
      have hb := brd_gsm hI.2.2.1 (sc := scf A.S n5 n7 (sn A.S 8)) h
      by_cases c : brd A.S (scf A.S n5 n7 (sn A.S 8)) n10 = true
      · have := hb.mpr c
        rw [if_pos c, Nat.min_eq_left (by omega)]
        rfl
      · have : ¬ 0 < gsm A.S (scf A.S n5 n7 (sn A.S 8)) n10 (nln A.S) := fun h9 => c (hb.mp h9)
        rw [if_neg c, show gsm A.S (scf A.S n5 n7 (sn A.S 8)) n10 (nln A.S) = 0 by omega]
        rfl
  · subst e5 e7 e10
    refine mR_v (hR.th2 f1 f12) (fun c hc => ?_) ?_ ?_
    · obtain ⟨f, rfl⟩ := f12; rw [va_up_ne _ _ (by omega), f1, up_hi hc]
    · obtain ⟨f, rfl⟩ := f12; rw [va_up_ne _ _ (by decide), f1, mu_self]
    · unfold ruleR
      subst h
      rw [if_pos ((okx_nI (by omega)).mpr (by omega)), if_pos ((okx_nI (by omega)).mpr (by omega)), if_pos ((okr_nI (by omega) (by omega) (by omega)).mpr l10), if_pos (show nI 2 = 2 from rfl)]
      simp (disch := omega) only [nI_clamp]
  · subst e5 e7
    refine mR_x ((hR.th f1).th f17) (fun c hc => by rw [f17, f1, up_hi hc, up_hi hc]) (c := 1) (by rw [f17, mu_self]) ?_
    unfold ruleR
    rw [if_pos ((okx_nI (by omega)).mpr (by omega)), if_pos ((okx_nI (by omega)).mpr (by omega)), if_neg (show ¬ okr z 0 2 from h)]
  · subst e5
    refine mR_x ((hR.th f1).th f19) (fun c hc => by rw [f19, f1, up_hi hc, up_hi hc]) (c := 0) (by rw [f19, mu_self]) ?_
    unfold ruleR
    rw [if_pos ((okx_nI (by omega)).mpr (by omega)), if_neg h]

theorem b_39_0 {X : Nat × (Nat → Int32)} {d : Nat} {p : Nat → Nat} {sg : Mg} {Q : am_R → Prop} {B : Nat} {S : Nat → Int32} (hI : Inv B S) (hL : cwL 250 sg S) (hD : cwD 200 sg S) {r : Nat} {v : Nat} (u_r : r ≤ 11) (u_v : v ≤ 5) (q1 : r < sn S 3)
    (o1 : (¬ sn S (177 + 3 * r) = v) → (¬ sn S (177 + 3 * r + 1) = v) → Q (gRv p sg (-1)))
    (o2 : (¬ sn S (177 + 3 * r) = v) → (sn S (177 + 3 * r + 1) = v) → Q (gRv p sg (S (177 + 3 * r))))
    (o3 : (sn S (177 + 3 * r) = v) → Q (gRv p sg (S (177 + 3 * r + 1)))) :
    gW X (d + 1) k_39 0 [some (vR 202), some (vI (nI r)), some (vI (nI v))] [] p sg Q := by
  have b0 := hI.b0; have b1 := hI.b1; have b2 := hI.b2; have b3 := hI.b3; have b4 := hI.b4; have b5 := hI.b5; have b6 := hI.b6; have b7 := hI.b7; have b8 := hI.b8; have b9 := hI.b9; have b14 := hI.b14
  refine g_pure 3 (i' := 3) (lv' := [some (vR 202), some (vI (nI r)), some (vI (nI v))]) (st' := [vI (nI r), vR 205]) rfl ?_
  refine g_aald rfl (Or.inl rfl) (g_A (a := 205) (kd := 5) (n := 12) rfl (by decide)) (by decide) (show nI r = nI r from (rfl : nI r = nI r)) (by omega) (gR_205 (by omega)) ?_
  refine g_pure 1 (i' := 5) (lv' := [some (vR 202), some (vI (nI r)), some (vI (nI v))]) (st' := [vI 0, vR (222 + r)]) rfl ?_
  refine g_ald rfl (gA_205 (by omega)) (by decide) (show 0 = nI 0 from (show (0 : Int32) = nI 0 from rfl)) (by decide) (show _ = S (177 + 3 * r) from (hD.roa 0 (by omega) (by decide))) ?_
  refine g_pure 1 (i' := 7) (lv' := [some (vR 202), some (vI (nI r)), some (vI (nI v))]) (st' := [vI (nI v), vI (S (177 + 3 * r))]) rfl ?_
  have t1 := (hI.roa (k := r) (by omega)).1
  have t1b := t1.2
  refine g_if2 (i' := 15) (P := ¬ sn S (177 + 3 * r) = v) rfl rfl (g_neN (show S (177 + 3 * r) = nI (sn S (177 + 3 * r)) from t1.1) (show nI v = nI v from (rfl : nI v = nI v)) (by omega) (by omega)) (fun h2 => ?_) (fun h2 => ?_)
  · refine g_pure 3 (i' := 18) (lv' := [some (vR 202), some (vI (nI r)), some (vI (nI v))]) (st' := [vI (nI r), vR 205]) rfl ?_
    refine g_aald rfl (Or.inl rfl) (g_A (a := 205) (kd := 5) (n := 12) rfl (by decide)) (by decide) (show nI r = nI r from (rfl : nI r = nI r)) (by omega) (gR_205 (by omega)) ?_
    refine g_pure 1 (i' := 20) (lv' := [some (vR 202), some (vI (nI r)), some (vI (nI v))]) (st' := [vI 1, vR (222 + r)]) rfl ?_
    refine g_ald rfl (gA_205 (by omega)) (by decide) (show 1 = nI 1 from (show (1 : Int32) = nI 1 from rfl)) (by decide) (show _ = S (177 + 3 * r + 1) from (hD.roa 1 (by omega) (by decide))) ?_
    refine g_pure 1 (i' := 22) (lv' := [some (vR 202), some (vI (nI r)), some (vI (nI v))]) (st' := [vI (nI v), vI (S (177 + 3 * r + 1))]) rfl ?_
    have t3 := (hI.roa (k := r) (by omega)).2.1
    have t3b := t3.2
    refine g_if2 (i' := 30) (P := ¬ sn S (177 + 3 * r + 1) = v) rfl rfl (g_neN (show S (177 + 3 * r + 1) = nI (sn S (177 + 3 * r + 1)) from t3.1) (show nI v = nI v from (rfl : nI v = nI v)) (by omega) (by omega)) (fun h4 => ?_) (fun h4 => ?_)
    · refine g_pure 1 (i' := 31) (lv' := [some (vR 202), some (vI (nI r)), some (vI (nI v))]) (st' := [vI (-1)]) rfl ?_
      refine g_iret rfl ?_
      exact o1 h2 h4
    · have h4 := Classical.not_not.mp h4
      refine g_pure 3 (i' := 26) (lv' := [some (vR 202), some (vI (nI r)), some (vI (nI v))]) (st' := [vI (nI r), vR 205]) rfl ?_
      refine g_aald rfl (Or.inl rfl) (g_A (a := 205) (kd := 5) (n := 12) rfl (by decide)) (by decide) (show nI r = nI r from (rfl : nI r = nI r)) (by omega) (gR_205 (by omega)) ?_
      refine g_pure 1 (i' := 28) (lv' := [some (vR 202), some (vI (nI r)), some (vI (nI v))]) (st' := [vI 0, vR (222 + r)]) rfl ?_
      refine g_ald rfl (gA_205 (by omega)) (by decide) (show 0 = nI 0 from (show (0 : Int32) = nI 0 from rfl)) (by decide) (show _ = S (177 + 3 * r) from (hD.roa 0 (by omega) (by decide))) ?_
      refine g_pure 1 (i' := 31) (lv' := [some (vR 202), some (vI (nI r)), some (vI (nI v))]) (st' := [vI (S (177 + 3 * r))]) rfl ?_
      refine g_iret rfl ?_
      exact o2 h2 h4
  · have h2 := Classical.not_not.mp h2
    refine g_pure 3 (i' := 11) (lv' := [some (vR 202), some (vI (nI r)), some (vI (nI v))]) (st' := [vI (nI r), vR 205]) rfl ?_
    refine g_aald rfl (Or.inl rfl) (g_A (a := 205) (kd := 5) (n := 12) rfl (by decide)) (by decide) (show nI r = nI r from (rfl : nI r = nI r)) (by omega) (gR_205 (by omega)) ?_
    refine g_pure 1 (i' := 13) (lv' := [some (vR 202), some (vI (nI r)), some (vI (nI v))]) (st' := [vI 1, vR (222 + r)]) rfl ?_
    refine g_ald rfl (gA_205 (by omega)) (by decide) (show 1 = nI 1 from (show (1 : Int32) = nI 1 from rfl)) (by decide) (show _ = S (177 + 3 * r + 1) from (hD.roa 1 (by omega) (by decide))) ?_
    refine g_iret rfl ?_
    exact o3 h2

theorem b_253_0 {X : Nat × (Nat → Int32)} {d : Nat} {p : Nat → Nat} {sg : Mg} {Q : am_R → Prop} {B : Nat} {S : Nat → Int32} (hI : Inv B S) (hS : sg 801 = S) {r : Nat} {v : Nat} (u_r : r ≤ 11) (u_v : v ≤ 5) (q1 : r < sn S 3)
    (o1 : (¬ sn S (177 + 3 * r) = v) → (¬ sn S (177 + 3 * r + 1) = v) → Q (gRv p sg (-1)))
    (o2 : (¬ sn S (177 + 3 * r) = v) → (sn S (177 + 3 * r + 1) = v) → Q (gRv p sg (S (177 + 3 * r))))
    (o3 : (sn S (177 + 3 * r) = v) → Q (gRv p sg (S (177 + 3 * r + 1)))) :
    gW X (d + 1) k_253 0 [some (vR 800), some (vI (nI r)), some (vI (nI v))] [] p sg Q := by
  have b0 := hI.b0; have b1 := hI.b1; have b2 := hI.b2; have b3 := hI.b3; have b4 := hI.b4; have b5 := hI.b5; have b6 := hI.b6; have b7 := hI.b7; have b8 := hI.b8; have b9 := hI.b9; have b14 := hI.b14
  refine g_pure 3 (i' := 3) (lv' := [some (vR 800), some (vI (nI r)), some (vI (nI v))]) (st' := [vI 0, vI (nI r), vR 800]) rfl ?_
  refine gW_eq (st' := [vI (nI 0), vI (nI r), vR 800]) rfl (by rw [(show (0 : Int32) = nI 0 from rfl)]) rfl ?_
  refine g_cV1 rfl (args := [vR 800, vI (nI r), vI (nI 0)]) (rest := []) rfl rfl rfl (s_241 (d := d) hS (by omega) (by omega)) ?_
  refine gW_eq (st' := [vI (S (177 + 3 * r))]) rfl (by rw [show S (177 + 3 * r + 0) = S (177 + 3 * r) from congrArg S (by omega)]) rfl ?_
  refine g_pure 1 (i' := 5) (lv' := [some (vR 800), some (vI (nI r)), some (vI (nI v))]) (st' := [vI (nI v), vI (S (177 + 3 * r))]) rfl ?_
  have t1 := (hI.roa (k := r) (by omega)).1
  have t1b := t1.2
  refine g_if2 (i' := 11) (P := ¬ sn S (177 + 3 * r) = v) rfl rfl (g_neN (show S (177 + 3 * r) = nI (sn S (177 + 3 * r)) from t1.1) (show nI v = nI v from (rfl : nI v = nI v)) (by omega) (by omega)) (fun h2 => ?_) (fun h2 => ?_)
  · refine g_pure 3 (i' := 14) (lv' := [some (vR 800), some (vI (nI r)), some (vI (nI v))]) (st' := [vI 1, vI (nI r), vR 800]) rfl ?_
    refine gW_eq (st' := [vI (nI 1), vI (nI r), vR 800]) rfl (by rw [(show (1 : Int32) = nI 1 from rfl)]) rfl ?_
    refine g_cV1 rfl (args := [vR 800, vI (nI r), vI (nI 1)]) (rest := []) rfl rfl rfl (s_241 (d := d) hS (by omega) (by omega)) ?_
    refine g_pure 1 (i' := 16) (lv' := [some (vR 800), some (vI (nI r)), some (vI (nI v))]) (st' := [vI (nI v), vI (S (177 + 3 * r + 1))]) rfl ?_
    have t3 := (hI.roa (k := r) (by omega)).2.1
    have t3b := t3.2
    refine g_if2 (i' := 22) (P := ¬ sn S (177 + 3 * r + 1) = v) rfl rfl (g_neN (show S (177 + 3 * r + 1) = nI (sn S (177 + 3 * r + 1)) from t3.1) (show nI v = nI v from (rfl : nI v = nI v)) (by omega) (by omega)) (fun h4 => ?_) (fun h4 => ?_)
    · refine g_pure 1 (i' := 23) (lv' := [some (vR 800), some (vI (nI r)), some (vI (nI v))]) (st' := [vI (-1)]) rfl ?_
      refine g_iret rfl ?_
      exact o1 h2 h4
    · have h4 := Classical.not_not.mp h4
      refine g_pure 3 (i' := 20) (lv' := [some (vR 800), some (vI (nI r)), some (vI (nI v))]) (st' := [vI 0, vI (nI r), vR 800]) rfl ?_
      refine gW_eq (st' := [vI (nI 0), vI (nI r), vR 800]) rfl (by rw [(show (0 : Int32) = nI 0 from rfl)]) rfl ?_
      refine g_cV1 rfl (args := [vR 800, vI (nI r), vI (nI 0)]) (rest := []) rfl rfl rfl (s_241 (d := d) hS (by omega) (by omega)) ?_
      refine gW_eq (st' := [vI (S (177 + 3 * r))]) rfl (by rw [show S (177 + 3 * r + 0) = S (177 + 3 * r) from congrArg S (by omega)]) rfl ?_
      refine g_pure 1 (i' := 23) (lv' := [some (vR 800), some (vI (nI r)), some (vI (nI v))]) (st' := [vI (S (177 + 3 * r))]) rfl ?_
      refine g_iret rfl ?_
      exact o2 h2 h4
  · have h2 := Classical.not_not.mp h2
    refine g_pure 3 (i' := 9) (lv' := [some (vR 800), some (vI (nI r)), some (vI (nI v))]) (st' := [vI 1, vI (nI r), vR 800]) rfl ?_
    refine gW_eq (st' := [vI (nI 1), vI (nI r), vR 800]) rfl (by rw [(show (1 : Int32) = nI 1 from rfl)]) rfl ?_
    refine g_cV1 rfl (args := [vR 800, vI (nI r), vI (nI 1)]) (rest := []) rfl rfl rfl (s_241 (d := d) hS (by omega) (by omega)) ?_
    refine g_pure 1 (i' := 23) (lv' := [some (vR 800), some (vI (nI r)), some (vI (nI v))]) (st' := [vI (S (177 + 3 * r + 1))]) rfl ?_
    refine g_iret rfl ?_
    exact o3 h2

/-- a road has an end in a village, and where it leads from there -/
def otP (S : Nat → Int32) (r v : Nat) : Prop := sn S (177 + 3 * r) = v ∨ sn S (177 + 3 * r + 1) = v

def otN (S : Nat → Int32) (r v : Nat) : Nat := if sn S (177 + 3 * r) = v then sn S (177 + 3 * r + 1) else sn S (177 + 3 * r)
theorem otN_lt {B : Nat} {S : Nat → Int32} (hI : Inv B S) {r : Nat} (hr : r < sn S 3) (v : Nat) : otN S r v < sn S 0 := by
  unfold otN
  split
  · exact (hI.roa hr).2.1.2
  · exact (hI.roa hr).1.2
theorem s_39o {X : Nat × (Nat → Int32)} {d : Nat} {p : Nat → Nat} {sg : Mg} {B : Nat} {S : Nat → Int32} (hI : Inv B S) (hL : cwL 250 sg S) (hD : cwD 200 sg S) {r v : Nat} (u_r : r ≤ 11) (u_v : v ≤ 5) (hr : r < sn S 3) (h : otP S r v) : gF X (d + 2) 39 [vR 202, vI (nI r), vI (nI v)] p sg (fun q => q = gRv p sg (nI (otN S r v))) := by
  refine g_in (cd := k_39) (nL := 3) (rc := 4) rfl (g_A (a := 202) (kd := 0) (n := 3) rfl (by decide)) (g_c1 rfl) (b_39_0 hI hL hD u_r u_v hr (fun h1 h2 => absurd h (by unfold otP; omega)) (fun h1 h2 => ?_) (fun h1 => ?_))
  · unfold otN; rw [if_neg h1]; exact congrArg (gRv p sg) (hI.roa hr).1.1
  · unfold otN; rw [if_pos h1]; exact congrArg (gRv p sg) (hI.roa hr).2.1.1
theorem s_39x {X : Nat × (Nat → Int32)} {d : Nat} {p : Nat → Nat} {sg : Mg} {B : Nat} {S : Nat → Int32} (hI : Inv B S) (hL : cwL 250 sg S) (hD : cwD 200 sg S) {r v : Nat} (u_r : r ≤ 11) (u_v : v ≤ 5) (hr : r < sn S 3) (h : ¬ otP S r v) : gF X (d + 2) 39 [vR 202, vI (nI r), vI (nI v)] p sg (fun q => q = gRv p sg (-1)) := by
  unfold otP at h
  exact g_in (cd := k_39) (nL := 3) (rc := 4) rfl (g_A (a := 202) (kd := 0) (n := 3) rfl (by decide)) (g_c1 rfl) (b_39_0 hI hL hD u_r u_v hr (fun h1 h2 => rfl) (fun h1 h2 => absurd h (by omega)) (fun h1 => absurd h (by omega)))
theorem s_253o {X : Nat × (Nat → Int32)} {d : Nat} {p : Nat → Nat} {sg : Mg} {B : Nat} {S : Nat → Int32} (hI : Inv B S) (hS : sg 801 = S) {r v : Nat} (u_r : r ≤ 11) (u_v : v ≤ 5) (hr : r < sn S 3) (h : otP S r v) : gF X (d + 2) 253 [vR 800, vI (nI r), vI (nI v)] p sg (fun q => q = gRv p sg (nI (otN S r v))) := by
  refine g_in (cd := k_253) (nL := 3) (rc := 13) rfl (g_A (a := 800) (kd := 0) (n := 12) rfl (by decide)) (g_c1 rfl) (b_253_0 hI hS u_r u_v hr (fun h1 h2 => absurd h (by unfold otP; omega)) (fun h1 h2 => ?_) (fun h1 => ?_))
  · unfold otN; rw [if_neg h1]; exact congrArg (gRv p sg) (hI.roa hr).1.1
  · unfold otN; rw [if_pos h1]; exact congrArg (gRv p sg) (hI.roa hr).2.1.1
theorem s_253x {X : Nat × (Nat → Int32)} {d : Nat} {p : Nat → Nat} {sg : Mg} {B : Nat} {S : Nat → Int32} (hI : Inv B S) (hS : sg 801 = S) {r v : Nat} (u_r : r ≤ 11) (u_v : v ≤ 5) (hr : r < sn S 3) (h : ¬ otP S r v) : gF X (d + 2) 253 [vR 800, vI (nI r), vI (nI v)] p sg (fun q => q = gRv p sg (-1)) := by
  unfold otP at h
  exact g_in (cd := k_253) (nL := 3) (rc := 13) rfl (g_A (a := 800) (kd := 0) (n := 12) rfl (by decide)) (g_c1 rfl) (b_253_0 hI hS u_r u_v hr (fun h1 h2 => rfl) (fun h1 h2 => absurd h (by omega)) (fun h1 => absurd h (by omega)))
