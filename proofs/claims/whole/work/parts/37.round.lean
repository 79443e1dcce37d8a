/-! ROUND, WHEN, KNEW, EARLY, LOG, PERSON (made by wip/whole/gen37.py) -/
theorem b_293_26 {X : Nat × (Nat → Int32)} {d : Nat} {p : Nat → Nat} {sg : Mg} {Q : am_R → Prop} {B : Nat} {S : Nat → Int32} (hI : Inv B S) (hS : sg 801 = S) {v : Nat} {w : Nat} {l : Nat} {z1 : Option AV} {z2 : Option AV} (u_v : v ≤ 5) (u_w : w ≤ 7) (u_l : l ≤ 16) (q1 : v < sn S 0) (q2 : 2 ≤ w) (q3 : 1 ≤ l)
    (o1 : (sn S 9 ≤ l) → Q (gRv p sg (S 9)))
    (o2 : (¬ (sn S 9 ≤ l)) → gW X (d + 2) k_293 34 [some (vR 800), some (vI (nI v)), some (vI (nI w)), some (vI (nI l)), some (vI 1), some (vI 0)] [] p sg Q) :
    gW X (d + 2) k_293 26 [some (vR 800), some (vI (nI v)), some (vI (nI w)), some (vI (nI l)), z1, z2] [] p sg Q := by
  have b0 := hI.b0; have b1 := hI.b1; have b2 := hI.b2; have b3 := hI.b3; have b4 := hI.b4; have b5 := hI.b5; have b6 := hI.b6; have b7 := hI.b7; have b8 := hI.b8; have b9 := hI.b9; have b14 := hI.b14
  refine g_pure 2 (i' := 28) (lv' := [some (vR 800), some (vI (nI v)), some (vI (nI w)), some (vI (nI l)), z1, z2]) (st' := [vR 800, vI (nI l)]) rfl ?_
  refine g_cV1 rfl (args := [vR 800]) (rest := [vI (nI l)]) rfl rfl rfl (s_199 (d := d + 1) hS) ?_
  refine g_if2 (i' := 57) (P := sn S 9 ≤ l) rfl rfl (g_geN (show nI l = nI l from (rfl : nI l = nI l)) (show S 9 = nI (sn S 9) from (hI.c9)) (by omega) (by omega)) (fun h1 => ?_) (fun h1 => ?_)
  · refine g_pure 1 (i' := 58) (lv' := [some (vR 800), some (vI (nI v)), some (vI (nI w)), some (vI (nI l)), z1, z2]) (st' := [vR 800]) rfl ?_
    refine g_cV1 rfl (args := [vR 800]) (rest := []) rfl rfl rfl (s_199 (d := d + 1) hS) ?_
    refine g_iret rfl ?_
    exact o1 h1
  · refine g_pure 4 (i' := 34) (lv' := [some (vR 800), some (vI (nI v)), some (vI (nI w)), some (vI (nI l)), some (vI 1), some (vI 0)]) (st' := []) rfl ?_
    exact o2 h1

theorem b_293_34 {X : Nat × (Nat → Int32)} {d : Nat} {p : Nat → Nat} {sg : Mg} {Q : am_R → Prop} {B : Nat} {S : Nat → Int32} (hI : Inv B S) (hS : sg 801 = S) {v : Nat} {w : Nat} {l : Nat} {P : Prop} [Decidable P] {k : Nat} (u_v : v ≤ 5) (u_w : w ≤ 7) (u_l : l ≤ 16) (u_k : k ≤ 16) (q1 : v < sn S 0) (q2 : 2 ≤ w) (q3 : 1 ≤ l) (q4 : l < sn S 9)
    (o1 : (sn S 9 ≤ k) → (¬ P) → gW X (d + 2) k_293 26 [some (vR 800), some (vI (nI v)), some (vI (nI w)), some (vI (nI (l + 1))), some (vI (if P then 1 else 0)), some (vI (nI k))] [] p sg Q)
    (o2 : (sn S 9 ≤ k) → (P) → Q (gRv p sg (nI l)))
    (o3 : (¬ (sn S 9 ≤ k)) → (¬ P) → (¬ P) → gW X (d + 2) k_293 26 [some (vR 800), some (vI (nI v)), some (vI (nI w)), some (vI (nI (l + 1))), some (vI (if P then 1 else 0)), some (vI (nI k))] [] p sg Q)
    (o4 : (¬ (sn S 9 ≤ k)) → (¬ P) → (P) → Q (gRv p sg (nI l)))
    (o5 : (¬ (sn S 9 ≤ k)) → (P) → gW X (d + 2) k_293 34 [some (vR 800), some (vI (nI v)), some (vI (nI w)), some (vI (nI l)), some (vI (if tchP S v w l k = true then 1 else 0)), some (vI (nI (k + 1)))] [] p sg Q) :
    gW X (d + 2) k_293 34 [some (vR 800), some (vI (nI v)), some (vI (nI w)), some (vI (nI l)), some (vI (if P then 1 else 0)), some (vI (nI k))] [] p sg Q := by
  have b0 := hI.b0; have b1 := hI.b1; have b2 := hI.b2; have b3 := hI.b3; have b4 := hI.b4; have b5 := hI.b5; have b6 := hI.b6; have b7 := hI.b7; have b8 := hI.b8; have b9 := hI.b9; have b14 := hI.b14
  refine g_pure 2 (i' := 36) (lv' := [some (vR 800), some (vI (nI v)), some (vI (nI w)), some (vI (nI l)), some (vI (if P then 1 else 0)), some (vI (nI k))]) (st' := [vR 800, vI (nI k)]) rfl ?_
  refine g_cV1 rfl (args := [vR 800]) (rest := [vI (nI k)]) rfl rfl rfl (s_199 (d := d + 1) hS) ?_
  refine g_if2 (i' := 51) (P := sn S 9 ≤ k) rfl rfl (g_geN (show nI k = nI k from (rfl : nI k = nI k)) (show S 9 = nI (sn S 9) from (hI.c9)) (by omega) (by omega)) (fun h1 => ?_) (fun h1 => ?_)
  · refine g_pure 1 (i' := 52) (lv' := [some (vR 800), some (vI (nI v)), some (vI (nI w)), some (vI (nI l)), some (vI (if P then 1 else 0)), some (vI (nI k))]) (st' := [vI (if P then 1 else 0)]) rfl ?_
    refine g_if1 (i' := 55) (P := ¬ P) rfl rfl g_eqB (fun h2 => ?_) (fun h2 => ?_)
    · refine g_pure 2 (i' := 26) (lv' := [some (vR 800), some (vI (nI v)), some (vI (nI w)), some (vI (nI l + 1)), some (vI (if P then 1 else 0)), some (vI (nI k))]) (st' := []) rfl ?_
      refine gW_eq (lv' := [some (vR 800), some (vI (nI v)), some (vI (nI w)), some (vI (nI (l + 1))), some (vI (if P then 1 else 0)), some (vI (nI k))]) (st' := []) (by rw [(show (nI l + 1) = nI (l + 1) from ((g_add (rfl : nI l = nI l) (show (1 : Int32) = nI 1 from rfl))).trans (congrArg nI (by omega)))]) rfl rfl ?_
      exact o1 h1 h2
    · have h2 := Classical.not_not.mp h2
      refine g_pure 1 (i' := 54) (lv' := [some (vR 800), some (vI (nI v)), some (vI (nI w)), some (vI (nI l)), some (vI (if P then 1 else 0)), some (vI (nI k))]) (st' := [vI (nI l)]) rfl ?_
      refine g_iret rfl ?_
      exact o2 h1 h2
  · refine g_pure 1 (i' := 39) (lv' := [some (vR 800), some (vI (nI v)), some (vI (nI w)), some (vI (nI l)), some (vI (if P then 1 else 0)), some (vI (nI k))]) (st' := [vI (if P then 1 else 0)]) rfl ?_
    refine g_if1 (i' := 51) (P := ¬ P) rfl rfl g_eqB (fun h3 => ?_) (fun h3 => ?_)
    · refine g_pure 1 (i' := 52) (lv' := [some (vR 800), some (vI (nI v)), some (vI (nI w)), some (vI (nI l)), some (vI (if P then 1 else 0)), some (vI (nI k))]) (st' := [vI (if P then 1 else 0)]) rfl ?_
      refine g_if1 (i' := 55) (P := ¬ P) rfl rfl g_eqB (fun h4 => ?_) (fun h4 => ?_)
      · refine g_pure 2 (i' := 26) (lv' := [some (vR 800), some (vI (nI v)), some (vI (nI w)), some (vI (nI l + 1)), some (vI (if P then 1 else 0)), some (vI (nI k))]) (st' := []) rfl ?_
        refine gW_eq (lv' := [some (vR 800), some (vI (nI v)), some (vI (nI w)), some (vI (nI (l + 1))), some (vI (if P then 1 else 0)), some (vI (nI k))]) (st' := []) (by rw [(show (nI l + 1) = nI (l + 1) from ((g_add (rfl : nI l = nI l) (show (1 : Int32) = nI 1 from rfl))).trans (congrArg nI (by omega)))]) rfl rfl ?_
        exact o3 h1 h3 h4
      · have h4 := Classical.not_not.mp h4
        refine g_pure 1 (i' := 54) (lv' := [some (vR 800), some (vI (nI v)), some (vI (nI w)), some (vI (nI l)), some (vI (if P then 1 else 0)), some (vI (nI k))]) (st' := [vI (nI l)]) rfl ?_
        refine g_iret rfl ?_
        exact o4 h1 h3 h4
    · have h3 := Classical.not_not.mp h3
      refine g_pure 7 (i' := 47) (lv' := [some (vR 800), some (vI (nI v)), some (vI (nI w)), some (vI (nI l)), some (vI (if P then 1 else 0)), some (vI (nI k))]) (st' := [vI (nI w), vI (nI k + nI l), vI (nI k), vI (nI v), vR 800]) rfl ?_
      refine gW_eq (lv' := [some (vR 800), some (vI (nI v)), some (vI (nI w)), some (vI (nI l)), some (vI (if P then 1 else 0)), some (vI (nI k))]) (st' := [vI (nI w), vI (nI (k + l)), vI (nI k), vI (nI v), vR 800]) rfl (by rw [(show (nI k + nI l) = nI (k + l) from ((g_add (rfl : nI k = nI k) (rfl : nI l = nI l))).trans (congrArg nI (by omega)))]) rfl ?_
      refine g_cV1 rfl (args := [vR 800, vI (nI v), vI (nI k), vI (nI (k + l)), vI (nI w)]) (rest := []) rfl rfl rfl (s_292 (l := l) (d := d) hI hS (by omega) (by omega) (by omega) (by omega) (by omega)) ?_
      refine g_pure 3 (i' := 34) (lv' := [some (vR 800), some (vI (nI v)), some (vI (nI w)), some (vI (nI l)), some (vI (if tchP S v w l k = true then 1 else 0)), some (vI (nI k + 1))]) (st' := []) rfl ?_
      refine gW_eq (lv' := [some (vR 800), some (vI (nI v)), some (vI (nI w)), some (vI (nI l)), some (vI (if tchP S v w l k = true then 1 else 0)), some (vI (nI (k + 1)))]) (st' := []) (by rw [(show (nI k + 1) = nI (k + 1) from ((g_add (rfl : nI k = nI k) (show (1 : Int32) = nI 1 from rfl))).trans (congrArg nI (by omega)))]) rfl rfl ?_
      exact o5 h1 h3

theorem l_293_34 {X : Nat × (Nat → Int32)} {d : Nat} {p : Nat → Nat} {sg : Mg} {Q : am_R → Prop} {B : Nat} {S : Nat → Int32} (hI : Inv B S) (hS : sg 801 = S) {v : Nat} {w : Nat} {l : Nat} (u_v : v ≤ 5) (u_w : w ≤ 7) (u_l : l ≤ 16) (q1 : v < sn S 0) (q2 : 2 ≤ w) (q3 : 1 ≤ l) (q4 : l < sn S 9) 
    (x1 : (sn S 9 ≤ (sn S 9)) → (¬ (allb (tchP S v w l) (sn S 9) = true)) → gW X (d + 2) k_293 26 [some (vR 800), some (vI (nI v)), some (vI (nI w)), some (vI (nI (l + 1))), some (vI (if (allb (tchP S v w l) (sn S 9) = true) then 1 else 0)), some (vI (nI (sn S 9)))] [] p sg Q)
    (x2 : (sn S 9 ≤ (sn S 9)) → ((allb (tchP S v w l) (sn S 9) = true)) → Q (gRv p sg (nI l)))
    (x3 : ∀ k : Nat, 0 ≤ k → k < sn S 9 → (¬ (sn S 9 ≤ k)) → (¬ (allb (tchP S v w l) k = true)) → (¬ (allb (tchP S v w l) k = true)) → gW X (d + 2) k_293 26 [some (vR 800), some (vI (nI v)), some (vI (nI w)), some (vI (nI (l + 1))), some (vI (if (allb (tchP S v w l) k = true) then 1 else 0)), some (vI (nI k))] [] p sg Q)
    (x4 : ∀ k : Nat, 0 ≤ k → k < sn S 9 → (¬ (sn S 9 ≤ k)) → (¬ (allb (tchP S v w l) k = true)) → ((allb (tchP S v w l) k = true)) → Q (gRv p sg (nI l))) :
    gW X (d + 2) k_293 34 [some (vR 800), some (vI (nI v)), some (vI (nI w)), some (vI (nI l)), some (vI (if (allb (tchP S v w l) 0 = true) then 1 else 0)), some (vI (nI 0))] [] p sg Q := by
  have b0 := hI.b0; have b1 := hI.b1; have b2 := hI.b2; have b3 := hI.b3; have b4 := hI.b4; have b5 := hI.b5; have b6 := hI.b6; have b7 := hI.b7; have b8 := hI.b8; have b9 := hI.b9; have b14 := hI.b14
  refine g_upI (P := fun k => gW X (d + 2) k_293 34 [some (vR 800), some (vI (nI v)), some (vI (nI w)), some (vI (nI l)), some (vI (if (allb (tchP S v w l) k = true) then 1 else 0)), some (vI (nI k))] [] p sg Q) (I := fun k => True) (n := sn S 9) (a := 0) (by omega) trivial (fun k hj0 hj hi ih => ?_) (fun hi => ?_)
  · have ih : True → gW X (d + 2) k_293 34 [some (vR 800), some (vI (nI v)), some (vI (nI w)), some (vI (nI l)), some (vI (if (allb (tchP S v w l) (k + 1) = true) then 1 else 0)), some (vI (nI (k + 1)))] [] p sg Q := ih
    exact b_293_34 hI hS (by omega) (by omega) (by omega) (by omega) (by omega) (by omega) (by omega) (by omega) (fun h1 h2 => by omega) (fun h1 h2 => by omega) (x3 k hj0 hj) (x4 k hj0 hj) (fun h1 h2 => by rw [show ((if tchP S v w l k = true then 1 else 0) : Int32) = (if (allb (tchP S v w l) (k + 1) = true) then 1 else 0) from by simp only [allb, Bool.and_eq_true, *, true_and]]; exact ih trivial)
  · exact b_293_34 hI hS (by omega) (by omega) (by omega) (by omega) (by omega) (by omega) (by omega) (by omega) (x1) (x2) (fun h1 h2 h3 => by omega) (fun h1 h2 h3 => by omega) (fun h1 h2 => by omega)

theorem l_293_26 {X : Nat × (Nat → Int32)} {d : Nat} {p : Nat → Nat} {sg : Mg} {B : Nat} {S : Nat → Int32} (hI : Inv B S) (hS : sg 801 = S) {Q : am_R → Prop} {v w : Nat} (hv : v < sn S 0) (h2 : 2 ≤ w) (h7 : w ≤ 7) {z1 z2 : Option AV}
    (x : Q (gRv p sg (nI (rnd S v w)))) :
    gW X (d + 2) k_293 26 [some (vR 800), some (vI (nI v)), some (vI (nI w)), some (vI (nI 1)), z1, z2] [] p sg Q := by
  have b0 := hI.b0; have b9 := hI.b9
  refine g_upI (P := fun l => ∀ z1 z2 : Option AV, gW X (d + 2) k_293 26 [some (vR 800), some (vI (nI v)), some (vI (nI w)), some (vI (nI l)), z1, z2] [] p sg Q) (I := fun l => ∀ i, 1 ≤ i → i < l → allb (tchP S v w i) (sn S 9) = false) (n := sn S 9) (a := 1) (by omega) (fun i h1 h2 => by omega) (fun l h1 hl hi ih z1 z2 => ?_) (fun hi z1 z2 => ?_) z1 z2
  · refine b_293_26 hI hS (by omega) (by omega) (by omega) hv h2 h1 (fun h => by omega) (fun _ => ?_)
    refine l_293_34 hI hS (by omega) (by omega) (by omega) hv h2 h1 hl ?_ ?_ ?_ ?_
    · intro _ ha
      refine ih (fun i hi1 hi2 => ?_) _ _
      rcases Nat.lt_succ_iff_lt_or_eq.mp hi2 with h8 | h8
      · exact hi i hi1 h8
      · rw [h8]; simpa using ha
    · intro _ ha
      rw [rnd_at h1 hl ha hi] at x
      exact x
    · intro k _ hk _ ha _
      refine ih (fun i hi1 hi2 => ?_) _ _
      rcases Nat.lt_succ_iff_lt_or_eq.mp hi2 with h8 | h8
      · exact hi i hi1 h8
      · rw [h8]
        cases e : allb (tchP S v w l) (sn S 9)
        · rfl
        · exact absurd (allb_iff.mpr (fun k' hk' => allb_iff.mp e k' (by omega))) ha
    · intro k _ _ _ h1 h2
      exact absurd h2 h1
  · refine b_293_26 hI hS (by omega) (by omega) (by omega) hv h2 (by omega) (fun h => ?_) (fun h => by omega)
    rw [rnd_no b9.1 hi, ← hI.c9] at x
    exact x

def roundR (S : Nat → Int32) (x : Int32) (y : Int32) : Nat × Int32 := if okx x (sn S 0) then (if okr y 2 7 then ((0, nI (rnd S x.toNatClampNeg y.toNatClampNeg))) else (2, 0)) else (1, 0)

theorem b_169_0 {X : Nat × (Nat → Int32)} {d : Nat} {p : Nat → Nat} {sg : Mg} {Q : am_R → Prop} {B : Nat} {S : Nat → Int32} (hI : Inv B S) (hL : cwL 250 sg S) (hD : cwD 200 sg S) {x : Int32} {y : Int32}
    (o1 : ∀ n2 : Nat, x = nI n2 → n2 < sn S 0 → ∀ n4 : Nat, y = nI n4 → 2 ≤ n4 ∧ n4 ≤ 7 → Q (gRv p sg (nI (rnd S n2 n4))))
    (o2 : ∀ n2 : Nat, x = nI n2 → n2 < sn S 0 → (¬ (¬ (y < 2) ∧ ¬ (7 < y))) → Q (gRx p sg 0))
    (o3 : (¬ okx x (sn S 0)) → Q (gRx p sg 2)) :
    gW X (d + 7) k_169 0 [some (vR 0), some (vI x), some (vI y)] [] p sg Q := by
  have b0 := hI.b0; have b1 := hI.b1; have b2 := hI.b2; have b3 := hI.b3; have b4 := hI.b4; have b5 := hI.b5; have b6 := hI.b6; have b7 := hI.b7; have b8 := hI.b8; have b9 := hI.b9; have b14 := hI.b14
  refine g_pure 3 (i' := 3) (lv' := [some (vR 0), some (vI x), some (vI y)]) (st' := [vI x, vI 0, vR 0]) rfl ?_
  by_cases h1 : okx x (sn S 0)
  · obtain ⟨n2, ln2, en2⟩ := okx_of h1
    subst en2
    refine gW_eq (st' := [vI (nI n2), vI (nI 0), vR 0]) rfl (by rw [(show (0 : Int32) = nI 0 from rfl)]) rfl ?_
    refine g_cV0 rfl (args := [vR 0, vI (nI 0), vI (nI n2)]) (rest := []) rfl rfl rfl (s_140o (d := d + 5) hI hL hD (by omega) ((okx_nI (by omega)).mpr (by omega))) ?_
    refine g_pure 3 (i' := 7) (lv' := [some (vR 0), some (vI (nI n2)), some (vI y)]) (st' := [vI 7, vI 2, vI y]) rfl ?_
    by_cases h3 : (¬ (y < 2) ∧ ¬ (7 < y))
    · obtain ⟨n4, ln4, en4⟩ := okr_of (lo := 2) (hi := 7) (by decide) h3
      subst en4
      refine g_cS0 rfl (args := [vI (nI n4), vI 2, vI 7]) (rest := []) rfl rfl rfl (s_141o (d := d + 6) (nI_nlt (b := 2) (by omega) (by omega)) (nI_nlt (a := 7) (by omega) (by omega))) ?_
      refine g_pure 4 (i' := 12) (lv' := [some (vR 0), some (vI (nI n2)), some (vI (nI n4))]) (st' := [vI (nI n4), vI (nI n2), vR 200]) rfl ?_
      refine g_cV1 rfl (args := [vR 200, vI (nI n2), vI (nI n4)]) (rest := []) rfl rfl rfl (s_123 (d := d + 1) hI hL hD (by omega) (by omega) (by omega)) ?_
      refine g_iret rfl ?_
      exact o1 n2 rfl ln2 n4 rfl ln4
    · refine g_cSx rfl (args := [vI y, vI 2, vI 7]) (rest := []) rfl rfl rfl (s_141x (d := d + 6) (by assumption)) ?_
      exact o2 n2 rfl ln2 h3
  · refine gW_eq (st' := [vI x, vI (nI 0), vR 0]) rfl (by rw [(show (0 : Int32) = nI 0 from rfl)]) rfl ?_
    refine g_cVx rfl (args := [vR 0, vI (nI 0), vI x]) (rest := []) rfl rfl rfl (s_140x (d := d + 5) hI hL hD (by omega) (by assumption)) ?_
    exact o3 h1

theorem c_round {X : Nat × (Nat → Int32)} {d : Nat} {p : Nat → Nat} {sg : Mg} {B : Nat} {S : Nat → Int32} (hI : Inv B S) (hL : cwL 250 sg S) (hD : cwD 200 sg S) {x : Int32} {y : Int32} : gF X (d + 8) 169 [vR 0, vI x, vI y] p sg (oC p sg (fun c => if c = 1 then 2 else 0) (roundR S x y)) := by
  have b0 := hI.b0; have b1 := hI.b1; have b2 := hI.b2; have b3 := hI.b3; have b4 := hI.b4; have b5 := hI.b5; have b9 := hI.b9; have b14 := hI.b14
  refine g_in (cd := k_169) (nL := 3) (rc := 12) rfl (g_A (a := 0) (kd := 0) (n := 11) rfl (by decide)) (g_c1 rfl) (b_169_0 hI hL hD (fun n1 e1 l1 n2 e2 l2 => oC_0 ?_) (fun n1 e1 l1 h2 => oC_x (c := 1) ?_ rfl) (fun h1 => oC_x (c := 0) ?_ rfl))
  · subst e1 e2
    unfold roundR
    rw [if_pos ((okx_nI (by omega)).mpr (by omega)), if_pos ((okr_nI (by omega) (by omega) (by omega)).mpr l2)]
    try simp (disch := omega) only [nI_clamp]
    try exact congrArg (fun j => ((0, S j) : Nat × Int32)) (by omega)
    try (split <;> first | rfl | contradiction)
    try rfl
  · subst e1
    unfold roundR
    rw [if_pos ((okx_nI (by omega)).mpr (by omega)), if_neg (show ¬ okr y 2 7 from h2)]
  · skip
    unfold roundR
    rw [if_neg h1]

theorem b_293_0 {X : Nat × (Nat → Int32)} {d : Nat} {p : Nat → Nat} {sg : Mg} {Q : am_R → Prop} {B : Nat} {S : Nat → Int32} (hI : Inv B S) (hS : sg 801 = S) {x : Int32} {y : Int32}
    (o1 : ∀ s1 : Mg, s1 = mu sg 800 0 0 → (¬ okx x (sn S 0)) → ∀ s3 : Mg, s3 = mu s1 800 0 (nI 1) → Q (gRv p s3 0))
    (o2 : ∀ s1 : Mg, s1 = mu sg 800 0 0 → ∀ n5 : Nat, x = nI n5 → n5 < sn S 0 → ∀ n8 : Nat, y = nI n8 → 2 ≤ n8 ∧ n8 ≤ 7 → gW X (d + 3) k_293 26 [some (vR 800), some (vI (nI n5)), some (vI (nI n8)), some (vI 1), none, none] [] p s1 Q)
    (o3 : ∀ s1 : Mg, s1 = mu sg 800 0 0 → ∀ n5 : Nat, x = nI n5 → n5 < sn S 0 → (¬ (¬ (y < 2) ∧ ¬ (7 < y))) → ∀ s10 : Mg, s10 = mu s1 800 0 (nI 2) → Q (gRv p s10 0)) :
    gW X (d + 3) k_293 0 [some (vR 800), some (vI x), some (vI y), none, none, none] [] p sg Q := by
  have b0 := hI.b0; have b1 := hI.b1; have b2 := hI.b2; have b3 := hI.b3; have b4 := hI.b4; have b5 := hI.b5; have b6 := hI.b6; have b7 := hI.b7; have b8 := hI.b8; have b9 := hI.b9; have b14 := hI.b14
  refine g_pure 2 (i' := 2) (lv' := [some (vR 800), some (vI x), some (vI y), none, none, none]) (st' := [vI 0, vR 800]) rfl ?_
  refine g_putI rfl (g_A (a := 800) (kd := 0) (n := 12) rfl (by decide)) ?_
  refine g_setv (fun s1 es1 => ?_)
  have hSs1 : s1 801 = S := by rw [es1, mu_ne (by decide), hS]
  refine g_pure 3 (i' := 6) (lv' := [some (vR 800), some (vI x), some (vI y), none, none, none]) (st' := [vI x, vR 800, vR 800]) rfl ?_
  refine g_cV1 rfl (args := [vR 800, vI x]) (rest := [vR 800]) rfl rfl rfl (s_230 (d := d + 1) hI hSs1) ?_
  refine g_pure 1 (i' := 8) (lv' := [some (vR 800), some (vI x), some (vI y), none, none, none]) (st' := [vI 1, vI (if ¬ okx x (sn S 0) then 1 else 0), vR 800]) rfl ?_
  by_cases h2 : ¬ okx x (sn S 0)
  · refine gW_eq (st' := [vI 1, vI 1, vR 800]) rfl (by rw [if_pos h2]) rfl ?_
    refine gW_eq (st' := [vI (nI 1), vI 1, vR 800]) rfl (by rw [(show (1 : Int32) = nI 1 from rfl)]) rfl ?_
    refine g_cV1 rfl (args := [vR 800, vI 1, vI (nI 1)]) (rest := []) rfl rfl rfl (s_227t (d := d + 2) (by omega)) ?_
    refine g_setv (fun s3 es3 => ?_)
    have hSs3 : s3 801 = S := by rw [es3, mu_ne (by decide), hSs1]
    refine g_if1 (i' := 22) (P := ¬ 1 = 0) rfl rfl (g_neN (show 1 = nI 1 from (show (1 : Int32) = nI 1 from rfl)) (show 0 = nI 0 from (show (0 : Int32) = nI 0 from rfl)) (by omega) (by omega)) (fun _ => ?_) (fun h4 => absurd (by omega) h4)
    refine g_pure 1 (i' := 23) (lv' := [some (vR 800), some (vI x), some (vI y), none, none, none]) (st' := [vI 0]) rfl ?_
    refine g_iret rfl ?_
    exact o1 s1 es1 h2 s3 es3
  · have h2 := Classical.not_not.mp h2
    refine gW_eq (st' := [vI 1, vI 0, vR 800]) rfl (by rw [if_neg (fun n9 => n9 h2)]) rfl ?_
    obtain ⟨n5, ln5, en5⟩ := okx_of h2
    subst en5
    refine gW_eq (st' := [vI (nI 1), vI 0, vR 800]) rfl (by rw [(show (1 : Int32) = nI 1 from rfl)]) rfl ?_
    refine g_cV1 rfl (args := [vR 800, vI 0, vI (nI 1)]) (rest := []) rfl rfl rfl (s_227f (d := d + 2) (by omega)) ?_
    refine g_if1 (i' := 22) (P := ¬ 0 = 0) rfl rfl (g_neN (show 0 = nI 0 from (show (0 : Int32) = nI 0 from rfl)) (show 0 = nI 0 from (show (0 : Int32) = nI 0 from rfl)) (by omega) (by omega)) (fun h6 => absurd h6 (by omega)) (fun _ => ?_)
    refine g_pure 4 (i' := 14) (lv' := [some (vR 800), some (vI (nI n5)), some (vI y), none, none, none]) (st' := [vI 7, vI 2, vI y, vR 800]) rfl ?_
    refine g_cS1 rfl (args := [vI y, vI 2, vI 7]) (rest := [vR 800]) rfl rfl rfl (s_231 (d := d + 2) ) ?_
    refine g_if1 (i' := 18) (P := (¬ (y < 2) ∧ ¬ (7 < y))) rfl rfl g_neB (fun h7 => ?_) (fun h7 => ?_)
    · obtain ⟨n8, ln8, en8⟩ := okr_of (lo := 2) (hi := 7) (by decide) h7
      subst en8
      refine g_pure 2 (i' := 20) (lv' := [some (vR 800), some (vI (nI n5)), some (vI (nI n8)), none, none, none]) (st' := [vI 2, vI 0, vR 800]) rfl ?_
      refine gW_eq (st' := [vI (nI 2), vI 0, vR 800]) rfl (by rw [(show (2 : Int32) = nI 2 from rfl)]) rfl ?_
      refine g_cV1 rfl (args := [vR 800, vI 0, vI (nI 2)]) (rest := []) rfl rfl rfl (s_227f (d := d + 2) (by omega)) ?_
      refine g_if1 (i' := 24) (P := 0 = 0) rfl rfl (g_eqN (show 0 = nI 0 from (show (0 : Int32) = nI 0 from rfl)) (show 0 = nI 0 from (show (0 : Int32) = nI 0 from rfl)) (by omega) (by omega)) (fun _ => ?_) (fun h9 => absurd (by omega) h9)
      refine g_pure 2 (i' := 26) (lv' := [some (vR 800), some (vI (nI n5)), some (vI (nI n8)), some (vI 1), none, none]) (st' := []) rfl ?_
      exact o2 s1 es1 n5 rfl ln5 n8 rfl ln8
    · refine g_pure 3 (i' := 20) (lv' := [some (vR 800), some (vI (nI n5)), some (vI y), none, none, none]) (st' := [vI 2, vI 1, vR 800]) rfl ?_
      refine gW_eq (st' := [vI (nI 2), vI 1, vR 800]) rfl (by rw [(show (2 : Int32) = nI 2 from rfl)]) rfl ?_
      refine g_cV1 rfl (args := [vR 800, vI 1, vI (nI 2)]) (rest := []) rfl rfl rfl (s_227t (d := d + 2) (by omega)) ?_
      refine g_setv (fun s10 es10 => ?_)
      have hSs10 : s10 801 = S := by rw [es10, mu_ne (by decide), hSs1]
      refine g_if1 (i' := 24) (P := 1 = 0) rfl rfl (g_eqN (show 1 = nI 1 from (show (1 : Int32) = nI 1 from rfl)) (show 0 = nI 0 from (show (0 : Int32) = nI 0 from rfl)) (by omega) (by omega)) (fun h11 => absurd h11 (by omega)) (fun _ => ?_)
      refine g_pure 1 (i' := 23) (lv' := [some (vR 800), some (vI (nI n5)), some (vI y), none, none, none]) (st' := [vI 0]) rfl ?_
      refine g_iret rfl ?_
      exact o3 s1 es1 n5 rfl ln5 h7 s10 es10

theorem m_round {X : Nat × (Nat → Int32)} {d : Nat} {p : Nat → Nat} {sg : Mg} {B : Nat} {S : Nat → Int32} (hI : Inv B S) (hS : sg 801 = S) {x : Int32} {y : Int32} : gF X (d + 4) 293 [vR 800, vI x, vI y] p sg (oM p sg (roundR S x y)) := by
  have b0 := hI.b0; have b1 := hI.b1; have b2 := hI.b2; have b3 := hI.b3; have b4 := hI.b4; have b5 := hI.b5; have b9 := hI.b9; have b14 := hI.b14
  refine g_in (cd := k_293) (nL := 6) (rc := 13) rfl (g_A (a := 800) (kd := 0) (n := 12) rfl (by decide)) (g_c1 rfl) (b_293_0 hI hS (fun s1 f1 h2 s3 f3 => oM_x (c := 0) f1 f3 ?_) (fun s1 f1 n2 e2 l2 n3 e3 l3 => l_293_26 hI (show s1 801 = S by rw [f1, mu_ne (by decide)]; exact hS) (by omega) (by omega) (by omega) (oM_0 f1 ?_)) (fun s1 f1 n2 e2 l2 h3 s4 f4 => oM_x (c := 1) f1 f4 ?_))
  · skip
    unfold roundR
    rw [if_neg h2]
  · subst e2 e3
    unfold roundR
    rw [if_pos ((okx_nI (by omega)).mpr (by omega)), if_pos ((okr_nI (by omega) (by omega) (by omega)).mpr l3)]
    try simp (disch := omega) only [nI_clamp]
    try exact congrArg (fun j => ((0, S j) : Nat × Int32)) (by omega)
    try (split <;> first | rfl | contradiction)
    try rfl
  · subst e2
    unfold roundR
    rw [if_pos ((okx_nI (by omega)).mpr (by omega)), if_neg (show ¬ okr y 2 7 from h3)]

theorem b_235_34 {X : Nat × (Nat → Int32)} {d : Nat} {p : Nat → Nat} {sg : Mg} {Q : am_R → Prop} {B : Nat} {S : Nat → Int32} (hI : Inv B S) (hS : sg 801 = S) {v : Nat} {e : Nat} {z : Option AV} {t : Nat} (u_v : v ≤ 5) (u_e : e ≤ 15) (u_t : t ≤ 1000020) (q1 : v < sn S 0) (q2 : e < sn S 9)
    (o1 : (sn S (17 + 16 * v + (t % (sn S 9))) = e) → Q (gRv p sg (nI t)))
    (o2 : (¬ (sn S (17 + 16 * v + (t % (sn S 9))) = e)) → gW X (d + 2) k_235 34 [some (vR 800), some (vI (nI v)), some (vI (nI e)), z, some (vI (nI (t + 1)))] [] p sg Q) :
    gW X (d + 2) k_235 34 [some (vR 800), some (vI (nI v)), some (vI (nI e)), z, some (vI (nI t))] [] p sg Q := by
  have b0 := hI.b0; have b1 := hI.b1; have b2 := hI.b2; have b3 := hI.b3; have b4 := hI.b4; have b5 := hI.b5; have b6 := hI.b6; have b7 := hI.b7; have b8 := hI.b8; have b9 := hI.b9; have b14 := hI.b14
  refine g_pure 3 (i' := 37) (lv' := [some (vR 800), some (vI (nI v)), some (vI (nI e)), z, some (vI (nI t))]) (st' := [vI (nI t), vI (nI v), vR 800]) rfl ?_
  refine g_cV1 rfl (args := [vR 800, vI (nI v), vI (nI t)]) (rest := []) rfl rfl rfl (s_232 (d := d) hI hS (by omega) (by omega)) ?_
  have t1 := Nat.mod_lt (t) (y := sn S 9) (by omega)
  refine g_pure 1 (i' := 39) (lv' := [some (vR 800), some (vI (nI v)), some (vI (nI e)), z, some (vI (nI t))]) (st' := [vI (nI e), vI (S (17 + 16 * v + (t % (sn S 9))))]) rfl ?_
  have t2 := hI.tbb (v := v) (q := (t % (sn S 9))) (by omega) (by omega)
  refine g_if2 (i' := 42) (P := sn S (17 + 16 * v + (t % (sn S 9))) = e) rfl rfl (g_eqN (show S (17 + 16 * v + (t % (sn S 9))) = nI (sn S (17 + 16 * v + (t % (sn S 9)))) from (hI.tb (by omega) (by omega))) (show nI e = nI e from (rfl : nI e = nI e)) (by omega) (by omega)) (fun h3 => ?_) (fun h3 => ?_)
  · refine g_pure 1 (i' := 43) (lv' := [some (vR 800), some (vI (nI v)), some (vI (nI e)), z, some (vI (nI t))]) (st' := [vI (nI t)]) rfl ?_
    refine g_iret rfl ?_
    exact o1 h3
  · refine g_pure 2 (i' := 34) (lv' := [some (vR 800), some (vI (nI v)), some (vI (nI e)), z, some (vI (nI t + 1))]) (st' := []) rfl ?_
    refine gW_eq (lv' := [some (vR 800), some (vI (nI v)), some (vI (nI e)), z, some (vI (nI (t + 1)))]) (st' := []) (by rw [(show (nI t + 1) = nI (t + 1) from ((g_add (rfl : nI t = nI t) (show (1 : Int32) = nI 1 from rfl))).trans (congrArg nI (by omega)))]) rfl rfl ?_
    exact o2 h3

theorem nxt_lt {B : Nat} {S : Nat → Int32} (hI : Inv B S) (v e t : Nat) : nxt S v e t < t + sn S 9 := by
  have b9 := hI.b9
  have := Nat.mod_lt (pgf S v e + sn S 9 - t % sn S 9) (y := sn S 9) (by omega)
  unfold nxt
  omega
theorem mod_shift {a b n : Nat} (hb : b < n) (h : a < n) : (a + (b + n - a) % n) % n = b := by
  rcases Nat.lt_or_ge b a with h1 | h1
  · rw [Nat.mod_eq_of_lt (show b + n - a < n by omega), show a + (b + n - a) = b + n by omega, Nat.add_mod_right, Nat.mod_eq_of_lt hb]
  · rw [show b + n - a = (b - a) + n by omega, Nat.add_mod_right, Nat.mod_eq_of_lt (show b - a < n by omega), show a + (b - a) = b by omega, Nat.mod_eq_of_lt hb]
theorem nxt_mod {B : Nat} {S : Nat → Int32} (hI : Inv B S) {v e : Nat} (t : Nat) (hv : v < sn S 0) (he : e < sn S 9) : nxt S v e t % sn S 9 = pgf S v e := by
  have b9 := hI.b9
  obtain ⟨f1, f2, f3⟩ := pgf_ok hI hv he
  have h1 := Nat.mod_lt t (y := sn S 9) (by omega)
  unfold nxt
  rw [Nat.add_mod, Nat.mod_mod_of_dvd _ (Nat.dvd_refl _)]
  exact mod_shift f1 h1
/-- the days ahead of the next one are others -/
theorem nxt_no {B : Nat} {S : Nat → Int32} (hI : Inv B S) {v e t u : Nat} (hv : v < sn S 0) (he : e < sn S 9) (h1 : t ≤ u) (h2 : u < nxt S v e t) : ¬ sn S (17 + 16 * v + u % sn S 9) = e := by
  have b9 := hI.b9
  obtain ⟨f1, f2, f3⟩ := pgf_ok hI hv he
  intro h
  have h3 := f3 _ (Nat.mod_lt u (show 0 < sn S 9 by omega)) h
  have h4 := nxt_mod hI t hv he
  have h5 := nxt_lt hI v e t
  rw [← h3] at h4
  have h6 : (nxt S v e t - u) % sn S 9 = 0 := Nat.sub_mod_eq_zero_of_mod_eq h4
  rw [Nat.mod_eq_of_lt (by omega)] at h6
  omega
theorem l_235_34 {X : Nat × (Nat → Int32)} {d : Nat} {p : Nat → Nat} {sg : Mg} {B : Nat} {S : Nat → Int32} (hI : Inv B S) (hS : sg 801 = S) {Q : am_R → Prop} {v e t : Nat} {z : Option AV} (hv : v < sn S 0) (he : e < sn S 9) (ht : t ≤ 1000000) (x : Q (gRv p sg (nI (nxt S v e t)))) :
    gW X (d + 2) k_235 34 [some (vR 800), some (vI (nI v)), some (vI (nI e)), z, some (vI (nI t))] [] p sg Q := by
  have b0 := hI.b0; have b9 := hI.b9
  have h5 := nxt_lt hI v e t
  have hle : t ≤ nxt S v e t := by unfold nxt; omega
  refine g_upI (P := fun u => gW X (d + 2) k_235 34 [some (vR 800), some (vI (nI v)), some (vI (nI e)), z, some (vI (nI u))] [] p sg Q) (I := fun _ => True) (n := nxt S v e t) (a := t) hle trivial (fun u h1 h2 _ ih => ?_) (fun _ => ?_)
  · exact b_235_34 hI hS (by omega) (by omega) (by omega) hv he (fun h => absurd h (nxt_no hI hv he h1 h2)) (fun _ => ih trivial)
  · refine b_235_34 hI hS (by omega) (by omega) (by omega) hv he (fun _ => x) (fun h => absurd ?_ h)
    rw [nxt_mod hI t hv he]
    exact (pgf_ok hI hv he).2.1

def whenR (S : Nat → Int32) (x : Int32) (y : Int32) (z : Int32) : Nat × Int32 := if okx x (sn S 0) then (if okx y (sn S 9) then (if okr z 0 1000000 then ((0, nI (nxt S x.toNatClampNeg y.toNatClampNeg z.toNatClampNeg))) else (2, 0)) else (1, 0)) else (1, 0)

theorem b_144_0 {X : Nat × (Nat → Int32)} {d : Nat} {p : Nat → Nat} {sg : Mg} {Q : am_R → Prop} {B : Nat} {S : Nat → Int32} (hI : Inv B S) (hL : cwL 250 sg S) (hD : cwD 200 sg S) {x : Int32} {y : Int32} {z : Int32}
    (o1 : ∀ n2 : Nat, x = nI n2 → n2 < sn S 0 → ∀ n4 : Nat, y = nI n4 → n4 < sn S 9 → ∀ n6 : Nat, z = nI n6 → 0 ≤ n6 ∧ n6 ≤ 1000000 → Q (gRv p sg (nI (n6 + ((pgf S n2 n4) + sn S 9 - (n6 % sn S 9)) % sn S 9))))
    (o2 : ∀ n2 : Nat, x = nI n2 → n2 < sn S 0 → ∀ n4 : Nat, y = nI n4 → n4 < sn S 9 → (¬ (¬ (z < 0) ∧ ¬ (1000000 < z))) → Q (gRx p sg 0))
    (o3 : ∀ n2 : Nat, x = nI n2 → n2 < sn S 0 → (¬ okx y (sn S 9)) → Q (gRx p sg 2))
    (o4 : (¬ okx x (sn S 0)) → Q (gRx p sg 2)) :
    gW X (d + 3) k_144 0 [some (vR 0), some (vI x), some (vI y), some (vI z)] [] p sg Q := by
  have b0 := hI.b0; have b1 := hI.b1; have b2 := hI.b2; have b3 := hI.b3; have b4 := hI.b4; have b5 := hI.b5; have b6 := hI.b6; have b7 := hI.b7; have b8 := hI.b8; have b9 := hI.b9; have b14 := hI.b14
  refine g_pure 3 (i' := 3) (lv' := [some (vR 0), some (vI x), some (vI y), some (vI z)]) (st' := [vI x, vI 0, vR 0]) rfl ?_
  by_cases h1 : okx x (sn S 0)
  · obtain ⟨n2, ln2, en2⟩ := okx_of h1
    subst en2
    refine gW_eq (st' := [vI (nI n2), vI (nI 0), vR 0]) rfl (by rw [(show (0 : Int32) = nI 0 from rfl)]) rfl ?_
    refine g_cV0 rfl (args := [vR 0, vI (nI 0), vI (nI n2)]) (rest := []) rfl rfl rfl (s_140o (d := d + 1) hI hL hD (by omega) ((okx_nI (by omega)).mpr (by omega))) ?_
    refine g_pure 2 (i' := 6) (lv' := [some (vR 0), some (vI (nI n2)), some (vI y), some (vI z)]) (st' := [vI y, vR 0]) rfl ?_
    by_cases h3 : okx y (sn S 9)
    · obtain ⟨n4, ln4, en4⟩ := okx_of h3
      subst en4
      refine g_cV0 rfl (args := [vR 0, vI (nI n4)]) (rest := []) rfl rfl rfl (s_143o (d := d + 2) hI hL hD ((okx_nI (by omega)).mpr (by omega))) ?_
      refine g_pure 3 (i' := 10) (lv' := [some (vR 0), some (vI (nI n2)), some (vI (nI n4)), some (vI z)]) (st' := [vI 1000000, vI 0, vI z]) rfl ?_
      by_cases h5 : (¬ (z < 0) ∧ ¬ (1000000 < z))
      · obtain ⟨n6, ln6, en6⟩ := okr_of (lo := 0) (hi := 1000000) (by decide) h5
        subst en6
        refine g_cS0 rfl (args := [vI (nI n6), vI 0, vI 1000000]) (rest := []) rfl rfl rfl (s_141o (d := d + 2) (nI_nlt (b := 0) (by omega) (by omega)) (nI_nlt (a := 1000000) (by omega) (by omega))) ?_
        refine g_pure 5 (i' := 16) (lv' := [some (vR 0), some (vI (nI n2)), some (vI (nI n4)), some (vI (nI n6))]) (st' := [vI (nI n6), vI (nI n4), vI (nI n2), vR 200]) rfl ?_
        refine g_cV1 rfl (args := [vR 200, vI (nI n2), vI (nI n4), vI (nI n6)]) (rest := []) rfl rfl rfl (s_111 (d := d) hI hL hD (by omega) (by omega) (by omega) (by omega) (by omega)) ?_
        refine g_iret rfl ?_
        exact o1 n2 rfl ln2 n4 rfl ln4 n6 rfl ln6
      · refine g_cSx rfl (args := [vI z, vI 0, vI 1000000]) (rest := []) rfl rfl rfl (s_141x (d := d + 2) (by assumption)) ?_
        exact o2 n2 rfl ln2 n4 rfl ln4 h5
    · refine g_cVx rfl (args := [vR 0, vI y]) (rest := []) rfl rfl rfl (s_143x (d := d + 2) hI hL hD (by assumption)) ?_
      exact o3 n2 rfl ln2 h3
  · refine gW_eq (st' := [vI x, vI (nI 0), vR 0]) rfl (by rw [(show (0 : Int32) = nI 0 from rfl)]) rfl ?_
    refine g_cVx rfl (args := [vR 0, vI (nI 0), vI x]) (rest := []) rfl rfl rfl (s_140x (d := d + 1) hI hL hD (by omega) (by assumption)) ?_
    exact o4 h1

theorem c_when {X : Nat × (Nat → Int32)} {d : Nat} {p : Nat → Nat} {sg : Mg} {B : Nat} {S : Nat → Int32} (hI : Inv B S) (hL : cwL 250 sg S) (hD : cwD 200 sg S) {x : Int32} {y : Int32} {z : Int32} : gF X (d + 4) 144 [vR 0, vI x, vI y, vI z] p sg (oC p sg (fun c => if c = 1 then 2 else 0) (whenR S x y z)) := by
  have b0 := hI.b0; have b1 := hI.b1; have b2 := hI.b2; have b3 := hI.b3; have b4 := hI.b4; have b5 := hI.b5; have b9 := hI.b9; have b14 := hI.b14
  refine g_in (cd := k_144) (nL := 4) (rc := 12) rfl (g_A (a := 0) (kd := 0) (n := 11) rfl (by decide)) (g_c1 rfl) (b_144_0 hI hL hD (fun n1 e1 l1 n2 e2 l2 n3 e3 l3 => oC_0 ?_) (fun n1 e1 l1 n2 e2 l2 h3 => oC_x (c := 1) ?_ rfl) (fun n1 e1 l1 h2 => oC_x (c := 0) ?_ rfl) (fun h1 => oC_x (c := 0) ?_ rfl))
  · subst e1 e2 e3
    unfold whenR
    rw [if_pos ((okx_nI (by omega)).mpr (by omega)), if_pos ((okx_nI (by omega)).mpr (by omega)), if_pos ((okr_nI (by omega) (by omega) (by omega)).mpr l3)]
    try simp (disch := omega) only [nI_clamp]
    try exact congrArg (fun j => ((0, S j) : Nat × Int32)) (by omega)
    try (split <;> first | rfl | contradiction)
    try rfl
  · subst e1 e2
    unfold whenR
    rw [if_pos ((okx_nI (by omega)).mpr (by omega)), if_pos ((okx_nI (by omega)).mpr (by omega)), if_neg (show ¬ okr z 0 1000000 from h3)]
  · subst e1
    unfold whenR
    rw [if_pos ((okx_nI (by omega)).mpr (by omega)), if_neg h2]
  · skip
    unfold whenR
    rw [if_neg h1]

theorem b_235_0 {X : Nat × (Nat → Int32)} {d : Nat} {p : Nat → Nat} {sg : Mg} {Q : am_R → Prop} {B : Nat} {S : Nat → Int32} (hI : Inv B S) (hS : sg 801 = S) {x : Int32} {y : Int32} {z : Int32}
    (o1 : ∀ s1 : Mg, s1 = mu sg 800 0 0 → (¬ okx x (sn S 0)) → ∀ s3 : Mg, s3 = mu s1 800 0 (nI 1) → Q (gRv p s3 0))
    (o2 : ∀ s1 : Mg, s1 = mu sg 800 0 0 → ∀ n5 : Nat, x = nI n5 → n5 < sn S 0 → ∀ n7 : Nat, y = nI n7 → n7 < sn S 9 → ∀ n10 : Nat, z = nI n10 → 0 ≤ n10 ∧ n10 ≤ 1000000 → gW X (d + 2) k_235 34 [some (vR 800), some (vI (nI n5)), some (vI (nI n7)), some (vI (nI n10)), some (vI (nI n10))] [] p s1 Q)
    (o3 : ∀ s1 : Mg, s1 = mu sg 800 0 0 → ∀ n5 : Nat, x = nI n5 → n5 < sn S 0 → ∀ n7 : Nat, y = nI n7 → n7 < sn S 9 → (¬ (¬ (z < 0) ∧ ¬ (1000000 < z))) → ∀ s12 : Mg, s12 = mu s1 800 0 (nI 2) → Q (gRv p s12 0))
    (o4 : ∀ s1 : Mg, s1 = mu sg 800 0 0 → ∀ n5 : Nat, x = nI n5 → n5 < sn S 0 → (¬ okx y (sn S 9)) → ∀ s14 : Mg, s14 = mu s1 800 0 (nI 1) → Q (gRv p s14 0)) :
    gW X (d + 2) k_235 0 [some (vR 800), some (vI x), some (vI y), some (vI z), none] [] p sg Q := by
  have b0 := hI.b0; have b1 := hI.b1; have b2 := hI.b2; have b3 := hI.b3; have b4 := hI.b4; have b5 := hI.b5; have b6 := hI.b6; have b7 := hI.b7; have b8 := hI.b8; have b9 := hI.b9; have b14 := hI.b14
  refine g_pure 2 (i' := 2) (lv' := [some (vR 800), some (vI x), some (vI y), some (vI z), none]) (st' := [vI 0, vR 800]) rfl ?_
  refine g_putI rfl (g_A (a := 800) (kd := 0) (n := 12) rfl (by decide)) ?_
  refine g_setv (fun s1 es1 => ?_)
  have hSs1 : s1 801 = S := by rw [es1, mu_ne (by decide), hS]
  refine g_pure 3 (i' := 6) (lv' := [some (vR 800), some (vI x), some (vI y), some (vI z), none]) (st' := [vI x, vR 800, vR 800]) rfl ?_
  refine g_cV1 rfl (args := [vR 800, vI x]) (rest := [vR 800]) rfl rfl rfl (s_230 (d := d) hI hSs1) ?_
  refine g_if1 (i' := 12) (P := ¬ okx x (sn S 0)) rfl rfl g_neB (fun h2 => ?_) (fun h2 => ?_)
  · refine g_pure 3 (i' := 16) (lv' := [some (vR 800), some (vI x), some (vI y), some (vI z), none]) (st' := [vI 1, vI 1, vR 800]) rfl ?_
    refine gW_eq (st' := [vI (nI 1), vI 1, vR 800]) rfl (by rw [(show (1 : Int32) = nI 1 from rfl)]) rfl ?_
    refine g_cV1 rfl (args := [vR 800, vI 1, vI (nI 1)]) (rest := []) rfl rfl rfl (s_227t (d := d + 1) (by omega)) ?_
    refine g_setv (fun s3 es3 => ?_)
    have hSs3 : s3 801 = S := by rw [es3, mu_ne (by decide), hSs1]
    refine g_if1 (i' := 30) (P := ¬ 1 = 0) rfl rfl (g_neN (show 1 = nI 1 from (show (1 : Int32) = nI 1 from rfl)) (show 0 = nI 0 from (show (0 : Int32) = nI 0 from rfl)) (by omega) (by omega)) (fun _ => ?_) (fun h4 => absurd (by omega) h4)
    refine g_pure 1 (i' := 31) (lv' := [some (vR 800), some (vI x), some (vI y), some (vI z), none]) (st' := [vI 0]) rfl ?_
    refine g_iret rfl ?_
    exact o1 s1 es1 h2 s3 es3
  · have h2 := Classical.not_not.mp h2
    obtain ⟨n5, ln5, en5⟩ := okx_of h2
    subst en5
    refine g_pure 2 (i' := 10) (lv' := [some (vR 800), some (vI (nI n5)), some (vI y), some (vI z), none]) (st' := [vI y, vR 800, vR 800]) rfl ?_
    refine g_cV1 rfl (args := [vR 800, vI y]) (rest := [vR 800]) rfl rfl rfl (s_234 (d := d) hI hSs1) ?_
    refine g_if1 (i' := 14) (P := okx y (sn S 9)) rfl rfl (g_eqB.trans Classical.not_not) (fun h6 => ?_) (fun h6 => ?_)
    · obtain ⟨n7, ln7, en7⟩ := okx_of h6
      subst en7
      refine g_pure 2 (i' := 16) (lv' := [some (vR 800), some (vI (nI n5)), some (vI (nI n7)), some (vI z), none]) (st' := [vI 1, vI 0, vR 800]) rfl ?_
      refine gW_eq (st' := [vI (nI 1), vI 0, vR 800]) rfl (by rw [(show (1 : Int32) = nI 1 from rfl)]) rfl ?_
      refine g_cV1 rfl (args := [vR 800, vI 0, vI (nI 1)]) (rest := []) rfl rfl rfl (s_227f (d := d + 1) (by omega)) ?_
      refine g_if1 (i' := 30) (P := ¬ 0 = 0) rfl rfl (g_neN (show 0 = nI 0 from (show (0 : Int32) = nI 0 from rfl)) (show 0 = nI 0 from (show (0 : Int32) = nI 0 from rfl)) (by omega) (by omega)) (fun h8 => absurd h8 (by omega)) (fun _ => ?_)
      refine g_pure 4 (i' := 22) (lv' := [some (vR 800), some (vI (nI n5)), some (vI (nI n7)), some (vI z), none]) (st' := [vI 1000000, vI 0, vI z, vR 800]) rfl ?_
      refine g_cS1 rfl (args := [vI z, vI 0, vI 1000000]) (rest := [vR 800]) rfl rfl rfl (s_231 (d := d + 1) ) ?_
      refine g_if1 (i' := 26) (P := (¬ (z < 0) ∧ ¬ (1000000 < z))) rfl rfl g_neB (fun h9 => ?_) (fun h9 => ?_)
      · obtain ⟨n10, ln10, en10⟩ := okr_of (lo := 0) (hi := 1000000) (by decide) h9
        subst en10
        refine g_pure 2 (i' := 28) (lv' := [some (vR 800), some (vI (nI n5)), some (vI (nI n7)), some (vI (nI n10)), none]) (st' := [vI 2, vI 0, vR 800]) rfl ?_
        refine gW_eq (st' := [vI (nI 2), vI 0, vR 800]) rfl (by rw [(show (2 : Int32) = nI 2 from rfl)]) rfl ?_
        refine g_cV1 rfl (args := [vR 800, vI 0, vI (nI 2)]) (rest := []) rfl rfl rfl (s_227f (d := d + 1) (by omega)) ?_
        refine g_if1 (i' := 32) (P := 0 = 0) rfl rfl (g_eqN (show 0 = nI 0 from (show (0 : Int32) = nI 0 from rfl)) (show 0 = nI 0 from (show (0 : Int32) = nI 0 from rfl)) (by omega) (by omega)) (fun _ => ?_) (fun h11 => absurd (by omega) h11)
        refine g_pure 2 (i' := 34) (lv' := [some (vR 800), some (vI (nI n5)), some (vI (nI n7)), some (vI (nI n10)), some (vI (nI n10))]) (st' := []) rfl ?_
        exact o2 s1 es1 n5 rfl ln5 n7 rfl ln7 n10 rfl ln10
      · refine g_pure 3 (i' := 28) (lv' := [some (vR 800), some (vI (nI n5)), some (vI (nI n7)), some (vI z), none]) (st' := [vI 2, vI 1, vR 800]) rfl ?_
        refine gW_eq (st' := [vI (nI 2), vI 1, vR 800]) rfl (by rw [(show (2 : Int32) = nI 2 from rfl)]) rfl ?_
        refine g_cV1 rfl (args := [vR 800, vI 1, vI (nI 2)]) (rest := []) rfl rfl rfl (s_227t (d := d + 1) (by omega)) ?_
        refine g_setv (fun s12 es12 => ?_)
        have hSs12 : s12 801 = S := by rw [es12, mu_ne (by decide), hSs1]
        refine g_if1 (i' := 32) (P := 1 = 0) rfl rfl (g_eqN (show 1 = nI 1 from (show (1 : Int32) = nI 1 from rfl)) (show 0 = nI 0 from (show (0 : Int32) = nI 0 from rfl)) (by omega) (by omega)) (fun h13 => absurd h13 (by omega)) (fun _ => ?_)
        refine g_pure 1 (i' := 31) (lv' := [some (vR 800), some (vI (nI n5)), some (vI (nI n7)), some (vI z), none]) (st' := [vI 0]) rfl ?_
        refine g_iret rfl ?_
        exact o3 s1 es1 n5 rfl ln5 n7 rfl ln7 h9 s12 es12
    · refine g_pure 3 (i' := 16) (lv' := [some (vR 800), some (vI (nI n5)), some (vI y), some (vI z), none]) (st' := [vI 1, vI 1, vR 800]) rfl ?_
      refine gW_eq (st' := [vI (nI 1), vI 1, vR 800]) rfl (by rw [(show (1 : Int32) = nI 1 from rfl)]) rfl ?_
      refine g_cV1 rfl (args := [vR 800, vI 1, vI (nI 1)]) (rest := []) rfl rfl rfl (s_227t (d := d + 1) (by omega)) ?_
      refine g_setv (fun s14 es14 => ?_)
      have hSs14 : s14 801 = S := by rw [es14, mu_ne (by decide), hSs1]
      refine g_if1 (i' := 30) (P := ¬ 1 = 0) rfl rfl (g_neN (show 1 = nI 1 from (show (1 : Int32) = nI 1 from rfl)) (show 0 = nI 0 from (show (0 : Int32) = nI 0 from rfl)) (by omega) (by omega)) (fun _ => ?_) (fun h15 => absurd (by omega) h15)
      refine g_pure 1 (i' := 31) (lv' := [some (vR 800), some (vI (nI n5)), some (vI y), some (vI z), none]) (st' := [vI 0]) rfl ?_
      refine g_iret rfl ?_
      exact o4 s1 es1 n5 rfl ln5 h6 s14 es14

theorem m_when {X : Nat × (Nat → Int32)} {d : Nat} {p : Nat → Nat} {sg : Mg} {B : Nat} {S : Nat → Int32} (hI : Inv B S) (hS : sg 801 = S) {x : Int32} {y : Int32} {z : Int32} : gF X (d + 3) 235 [vR 800, vI x, vI y, vI z] p sg (oM p sg (whenR S x y z)) := by
  have b0 := hI.b0; have b1 := hI.b1; have b2 := hI.b2; have b3 := hI.b3; have b4 := hI.b4; have b5 := hI.b5; have b9 := hI.b9; have b14 := hI.b14
  refine g_in (cd := k_235) (nL := 5) (rc := 13) rfl (g_A (a := 800) (kd := 0) (n := 12) rfl (by decide)) (g_c1 rfl) (b_235_0 hI hS (fun s1 f1 h2 s3 f3 => oM_x (c := 0) f1 f3 ?_) (fun s1 f1 n2 e2 l2 n3 e3 l3 n4 e4 l4 => l_235_34 hI (show s1 801 = S by rw [f1, mu_ne (by decide)]; exact hS) (by omega) (by omega) (by omega) (oM_0 f1 ?_)) (fun s1 f1 n2 e2 l2 n3 e3 l3 h4 s5 f5 => oM_x (c := 1) f1 f5 ?_) (fun s1 f1 n2 e2 l2 h3 s4 f4 => oM_x (c := 0) f1 f4 ?_))
  · skip
    unfold whenR
    rw [if_neg h2]
  · subst e2 e3 e4
    unfold whenR
    rw [if_pos ((okx_nI (by omega)).mpr (by omega)), if_pos ((okx_nI (by omega)).mpr (by omega)), if_pos ((okr_nI (by omega) (by omega) (by omega)).mpr l4)]
    try simp (disch := omega) only [nI_clamp]
    try exact congrArg (fun j => ((0, S j) : Nat × Int32)) (by omega)
    try (split <;> first | rfl | contradiction)
    try rfl
  · subst e2 e3
    unfold whenR
    rw [if_pos ((okx_nI (by omega)).mpr (by omega)), if_pos ((okx_nI (by omega)).mpr (by omega)), if_neg (show ¬ okr z 0 1000000 from h4)]
  · subst e2
    unfold whenR
    rw [if_pos ((okx_nI (by omega)).mpr (by omega)), if_neg h3]
