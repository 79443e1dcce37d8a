/-! GIVE, WORK, TELL (made by wip/whole/gen74.py) -/
abbrev gvOK (S : Nat → Int32) (k j c : Nat) : Prop := ¬ S (113 + 6 * k) = -1 ∧ S (113 + 6 * k) = S (113 + 6 * j) ∧ c ≤ sn S (113 + 6 * k + 3) ∧ sn S (113 + 6 * j + 3) + c ≤ 9999
def gvT (S : Nat → Int32) (k j c : Nat) : Nat → Int32 := upd (upd S (113 + 6 * k + 3) (nI (sn S (113 + 6 * k + 3) - c))) (113 + 6 * j + 3) (nI (sn S (113 + 6 * j + 3) + c))
def giveR (S : Nat → Int32) (x y z : Int32) : Nat × Int32 := if okx x (sn S 1) then (if okx y (sn S 1) then (if okr z 1 9999 ∧ ¬ x = y then (if gvOK S x.toNatClampNeg y.toNatClampNeg z.toNatClampNeg then (0, nI (sn S (113 + 6 * y.toNatClampNeg + 3) + z.toNatClampNeg)) else (3, 0)) else (2, 0)) else (1, 0)) else (1, 0)
theorem gvT_inv {B : Nat} {A : AS} (hI : RI B A) {k j c : Nat} (hk : k < sn A.S 1) (hj : j < sn A.S 1) (hne : ¬ k = j) (h : gvOK A.S k j c) : Inv B (gvT A.S k j c) ∧ Str (gvT A.S k j c) ∧ kpL A.S (gvT A.S k j c) := by
  have b1 := hI.1.b1; have b8 := hI.1.b8
  have hc := (hI.1.per hk).2.1.2
  have h1 := hI.1.per1 (k := k) (j := 3) (n := sn A.S (113 + 6 * k + 3) - c) hk (Or.inl ⟨rfl, by omega⟩)
  have h2 := h1.per1 (k := j) (j := 3) (n := sn A.S (113 + 6 * j + 3) + c) (by rw [sn_upd (by omega)]; exact hj) (Or.inl ⟨rfl, by have := h.2.2.2; omega⟩)
  have ne : ∀ i, i ≠ 113 + 6 * k + 3 → i ≠ 113 + 6 * j + 3 → gvT A.S k j c i = A.S i := fun i e1 e2 => by unfold gvT; rw [upd_ne e2, upd_ne e1]
  refine ⟨h2, fun k' hk' hw' => ?_, fun i hi => ne i (by unfold lifeN noLand at hi; omega) (by unfold lifeN noLand at hi; omega)⟩
  rw [sn_eq (ne 1 (by omega) (by omega))] at hk'
  rw [ne _ (by omega) (by omega)] at hw'
  rw [sn_eq (ne 8 (by omega) (by omega)), sn_eq (ne (113 + 6 * k' + 2) (by omega) (by omega))]
  exact hI.2.1 k' hk' hw'
theorem nI_sub {a b : Nat} (h : b ≤ a) : nI a - nI b = nI (a - b) := g_sub rfl rfl h

theorem b_154_0 {X : Nat × (Nat → Int32)} {d : Nat} {p : Nat → Nat} {sg : Mg} {Q : am_R → Prop} {B : Nat} {S : Nat → Int32} (hI : Inv B S) (hL : cwL 250 sg S) (hD : cwD 200 sg S) {x : Int32} {y : Int32} {z : Int32}
    (o1 : ∀ n2 : Nat, x = nI n2 → n2 < sn S 1 → ∀ n4 : Nat, y = nI n4 → n4 < sn S 1 → ∀ n6 : Nat, z = nI n6 → 1 ≤ n6 ∧ n6 ≤ 9999 → (¬ n2 = n4) → gW X (d + 6) k_154 15 [some (vR 0), some (vI (nI n2)), some (vI (nI n4)), some (vI (nI n6)), none, none] [] p sg Q)
    (o2 : ∀ n2 : Nat, x = nI n2 → n2 < sn S 1 → ∀ n4 : Nat, y = nI n4 → n4 < sn S 1 → ∀ n6 : Nat, z = nI n6 → 1 ≤ n6 ∧ n6 ≤ 9999 → (n2 = n4) → Q (gRx p sg 0))
    (o3 : ∀ n2 : Nat, x = nI n2 → n2 < sn S 1 → ∀ n4 : Nat, y = nI n4 → n4 < sn S 1 → (¬ (¬ (z < 1) ∧ ¬ (9999 < z))) → Q (gRx p sg 0))
    (o4 : ∀ n2 : Nat, x = nI n2 → n2 < sn S 1 → (¬ okx y (sn S 1)) → Q (gRx p sg 2))
    (o5 : (¬ okx x (sn S 1)) → Q (gRx p sg 2)) :
    gW X (d + 6) k_154 0 [some (vR 0), some (vI x), some (vI y), some (vI z), none, none] [] p sg Q := by
  have b0 := hI.b0; have b1 := hI.b1; have b2 := hI.b2; have b3 := hI.b3; have b4 := hI.b4; have b5 := hI.b5; have b6 := hI.b6; have b7 := hI.b7; have b8 := hI.b8; have b9 := hI.b9; have b14 := hI.b14
  refine g_pure 3 (i' := 3) (lv' := [some (vR 0), some (vI x), some (vI y), some (vI z), none, none]) (st' := [vI x, vI 1, vR 0]) rfl ?_
  by_cases h1 : okx x (sn S 1)
  · obtain ⟨n2, ln2, en2⟩ := okx_of h1
    subst en2
    refine gW_eq (st' := [vI (nI n2), vI (nI 1), vR 0]) rfl (by rw [(show (1 : Int32) = nI 1 from rfl)]) rfl ?_
    refine g_cV0 rfl (args := [vR 0, vI (nI 1), vI (nI n2)]) (rest := []) rfl rfl rfl (s_140o (d := d + 4) hI hL hD (by omega) ((okx_nI (by omega)).mpr (by omega))) ?_
    refine g_pure 3 (i' := 7) (lv' := [some (vR 0), some (vI (nI n2)), some (vI y), some (vI z), none, none]) (st' := [vI y, vI 1, vR 0]) rfl ?_
    by_cases h3 : okx y (sn S 1)
    · obtain ⟨n4, ln4, en4⟩ := okx_of h3
      subst en4
      refine gW_eq (st' := [vI (nI n4), vI (nI 1), vR 0]) rfl (by rw [(show (1 : Int32) = nI 1 from rfl)]) rfl ?_
      refine g_cV0 rfl (args := [vR 0, vI (nI 1), vI (nI n4)]) (rest := []) rfl rfl rfl (s_140o (d := d + 4) hI hL hD (by omega) ((okx_nI (by omega)).mpr (by omega))) ?_
      refine g_pure 3 (i' := 11) (lv' := [some (vR 0), some (vI (nI n2)), some (vI (nI n4)), some (vI z), none, none]) (st' := [vI 9999, vI 1, vI z]) rfl ?_
      by_cases h5 : (¬ (z < 1) ∧ ¬ (9999 < z))
      · obtain ⟨n6, ln6, en6⟩ := okr_of (lo := 1) (hi := 9999) (by decide) h5
        subst en6
        refine g_cS0 rfl (args := [vI (nI n6), vI 1, vI 9999]) (rest := []) rfl rfl rfl (s_141o (d := d + 5) (nI_nlt (b := 1) (by omega) (by omega)) (nI_nlt (a := 9999) (by omega) (by omega))) ?_
        refine g_pure 2 (i' := 14) (lv' := [some (vR 0), some (vI (nI n2)), some (vI (nI n4)), some (vI (nI n6)), none, none]) (st' := [vI (nI n4), vI (nI n2)]) rfl ?_
        by_cases h7 : ¬ n2 = n4
        · refine g_cS0 rfl (args := [vI (nI n2), vI (nI n4)]) (rest := []) rfl rfl rfl (s_155o (d := d + 5) (fun h9 => absurd ((nI_eq (by omega) (by omega)).mp h9) (by assumption))) ?_
          exact o1 n2 rfl ln2 n4 rfl ln4 n6 rfl ln6 h7
        · have h7 := Classical.not_not.mp h7
          refine g_cSx rfl (args := [vI (nI n2), vI (nI n4)]) (rest := []) rfl rfl rfl (s_155x (d := d + 5) (congrArg nI (by assumption))) ?_
          exact o2 n2 rfl ln2 n4 rfl ln4 n6 rfl ln6 h7
      · refine g_cSx rfl (args := [vI z, vI 1, vI 9999]) (rest := []) rfl rfl rfl (s_141x (d := d + 5) (by assumption)) ?_
        exact o3 n2 rfl ln2 n4 rfl ln4 h5
    · refine gW_eq (st' := [vI y, vI (nI 1), vR 0]) rfl (by rw [(show (1 : Int32) = nI 1 from rfl)]) rfl ?_
      refine g_cVx rfl (args := [vR 0, vI (nI 1), vI y]) (rest := []) rfl rfl rfl (s_140x (d := d + 4) hI hL hD (by omega) (by assumption)) ?_
      exact o4 n2 rfl ln2 h3
  · refine gW_eq (st' := [vI x, vI (nI 1), vR 0]) rfl (by rw [(show (1 : Int32) = nI 1 from rfl)]) rfl ?_
    refine g_cVx rfl (args := [vR 0, vI (nI 1), vI x]) (rest := []) rfl rfl rfl (s_140x (d := d + 4) hI hL hD (by omega) (by assumption)) ?_
    exact o5 h1

theorem b_154_15 {X : Nat × (Nat → Int32)} {d : Nat} {p : Nat → Nat} {sg : Mg} {Q : am_R → Prop} {B : Nat} {S : Nat → Int32} (hI : Inv B S) (hL : cwL 250 sg S) (hD : cwD 200 sg S) {k : Nat} {j : Nat} {c : Nat} (u_k : k ≤ 7) (u_j : j ≤ 7) (u_c : c ≤ 9999) (q1 : k < sn S 1) (q2 : j < sn S 1) (q3 : 1 ≤ c) (q4 : ¬ k = j)
    (o1 : (S (113 + 6 * k) = (-1)) → Q (gRx p sg 4))
    (o2 : (¬ (S (113 + 6 * k) = (-1))) → (¬ S (113 + 6 * k) = S (113 + 6 * j)) → Q (gRx p sg 4))
    (o3 : (¬ (S (113 + 6 * k) = (-1))) → (S (113 + 6 * k) = S (113 + 6 * j)) → (sn S (113 + 6 * k + 3) < c) → Q (gRx p sg 4))
    (o4 : (¬ (S (113 + 6 * k) = (-1))) → (S (113 + 6 * k) = S (113 + 6 * j)) → (¬ (sn S (113 + 6 * k + 3) < c)) → (sn S (113 + 6 * j + 3) + c ≤ 9999) → gW X (d + 6) k_154 59 [some (vR 0), some (vI (nI k)), some (vI (nI j)), some (vI (nI c)), some (vR 250), some (vI 1)] [] p sg Q)
    (o5 : (¬ (S (113 + 6 * k) = (-1))) → (S (113 + 6 * k) = S (113 + 6 * j)) → (¬ (sn S (113 + 6 * k + 3) < c)) → (¬ (sn S (113 + 6 * j + 3) + c ≤ 9999)) → Q (gRx p sg 4)) :
    gW X (d + 6) k_154 15 [some (vR 0), some (vI (nI k)), some (vI (nI j)), some (vI (nI c)), none, none] [] p sg Q := by
  have b0 := hI.b0; have b1 := hI.b1; have b2 := hI.b2; have b3 := hI.b3; have b4 := hI.b4; have b5 := hI.b5; have b6 := hI.b6; have b7 := hI.b7; have b8 := hI.b8; have b9 := hI.b9; have b14 := hI.b14
  refine g_pure 7 (i' := 22) (lv' := [some (vR 0), some (vI (nI k)), some (vI (nI j)), some (vI (nI c)), some (vR 250), none]) (st' := [vI (nI k), vR 252]) rfl ?_
  refine g_ald rfl (g_A (a := 252) (kd := 1) (n := 8) rfl (by decide)) (by decide) (show nI k = nI k from (rfl : nI k = nI k)) (by omega) (show _ = S (113 + 6 * k) from (hL.per 0 (by decide) (by omega))) ?_
  refine g_pure 1 (i' := 24) (lv' := [some (vR 0), some (vI (nI k)), some (vI (nI j)), some (vI (nI c)), some (vR 250), none]) (st' := [vI (-1), vI (S (113 + 6 * k))]) rfl ?_
  refine g_if2 (i' := 36) (P := S (113 + 6 * k) = (-1)) rfl rfl Iff.rfl (fun h1 => ?_) (fun h1 => ?_)
  · refine g_pure 3 (i' := 39) (lv' := [some (vR 0), some (vI (nI k)), some (vI (nI j)), some (vI (nI c)), some (vR 250), some (vI 0)]) (st' := [vI 0]) rfl ?_
    refine g_if1 (i' := 54) (P := 0 = 0) rfl rfl (g_eqN (show 0 = nI 0 from (show (0 : Int32) = nI 0 from rfl)) (show 0 = nI 0 from (show (0 : Int32) = nI 0 from rfl)) (by omega) (by omega)) (fun _ => ?_) (fun h2 => absurd (by omega) h2)
    refine g_thr' rfl rfl ?_
    exact o1 h1
  · refine g_pure 3 (i' := 28) (lv' := [some (vR 0), some (vI (nI k)), some (vI (nI j)), some (vI (nI c)), some (vR 250), none]) (st' := [vI (nI k), vR 252]) rfl ?_
    refine g_ald rfl (g_A (a := 252) (kd := 1) (n := 8) rfl (by decide)) (by decide) (show nI k = nI k from (rfl : nI k = nI k)) (by omega) (show _ = S (113 + 6 * k) from (hL.per 0 (by decide) (by omega))) ?_
    refine g_pure 3 (i' := 32) (lv' := [some (vR 0), some (vI (nI k)), some (vI (nI j)), some (vI (nI c)), some (vR 250), none]) (st' := [vI (nI j), vR 252, vI (S (113 + 6 * k))]) rfl ?_
    refine g_ald rfl (g_A (a := 252) (kd := 1) (n := 8) rfl (by decide)) (by decide) (show nI j = nI j from (rfl : nI j = nI j)) (by omega) (show _ = S (113 + 6 * j) from (hL.per 0 (by decide) (by omega))) ?_
    refine g_if2 (i' := 36) (P := ¬ S (113 + 6 * k) = S (113 + 6 * j)) rfl rfl Iff.rfl (fun h3 => ?_) (fun h3 => ?_)
    · refine g_pure 3 (i' := 39) (lv' := [some (vR 0), some (vI (nI k)), some (vI (nI j)), some (vI (nI c)), some (vR 250), some (vI 0)]) (st' := [vI 0]) rfl ?_
      refine g_if1 (i' := 54) (P := 0 = 0) rfl rfl (g_eqN (show 0 = nI 0 from (show (0 : Int32) = nI 0 from rfl)) (show 0 = nI 0 from (show (0 : Int32) = nI 0 from rfl)) (by omega) (by omega)) (fun _ => ?_) (fun h4 => absurd (by omega) h4)
      refine g_thr' rfl rfl ?_
      exact o2 h1 h3
    · have h3 := Classical.not_not.mp h3
      refine g_pure 4 (i' := 39) (lv' := [some (vR 0), some (vI (nI k)), some (vI (nI j)), some (vI (nI c)), some (vR 250), some (vI 1)]) (st' := [vI 1]) rfl ?_
      refine g_if1 (i' := 54) (P := 1 = 0) rfl rfl (g_eqN (show 1 = nI 1 from (show (1 : Int32) = nI 1 from rfl)) (show 0 = nI 0 from (show (0 : Int32) = nI 0 from rfl)) (by omega) (by omega)) (fun h5 => absurd h5 (by omega)) (fun _ => ?_)
      refine g_pure 3 (i' := 43) (lv' := [some (vR 0), some (vI (nI k)), some (vI (nI j)), some (vI (nI c)), some (vR 250), some (vI 1)]) (st' := [vI (nI k), vR 255]) rfl ?_
      refine g_ald rfl (g_A (a := 255) (kd := 1) (n := 8) rfl (by decide)) (by decide) (show nI k = nI k from (rfl : nI k = nI k)) (by omega) (show _ = S (113 + 6 * k + 3) from (hL.per 3 (by decide) (by omega))) ?_
      refine g_pure 1 (i' := 45) (lv' := [some (vR 0), some (vI (nI k)), some (vI (nI j)), some (vI (nI c)), some (vR 250), some (vI 1)]) (st' := [vI (nI c), vI (S (113 + 6 * k + 3))]) rfl ?_
      have t6 := (hI.per (k := k) (by omega)).2.1
      have t6b := t6.2
      refine g_if2 (i' := 54) (P := sn S (113 + 6 * k + 3) < c) rfl rfl (g_ltN (show S (113 + 6 * k + 3) = nI (sn S (113 + 6 * k + 3)) from t6.1) (show nI c = nI c from (rfl : nI c = nI c)) (by omega) (by omega)) (fun h7 => ?_) (fun h7 => ?_)
      · refine g_thr' rfl rfl ?_
        exact o3 h1 h3 h7
      · refine g_pure 3 (i' := 49) (lv' := [some (vR 0), some (vI (nI k)), some (vI (nI j)), some (vI (nI c)), some (vR 250), some (vI 1)]) (st' := [vI (nI j), vR 255]) rfl ?_
        refine g_ald rfl (g_A (a := 255) (kd := 1) (n := 8) rfl (by decide)) (by decide) (show nI j = nI j from (rfl : nI j = nI j)) (by omega) (show _ = S (113 + 6 * j + 3) from (hL.per 3 (by decide) (by omega))) ?_
        have t8 := (hI.per (k := j) (by omega)).2.1
        have t8b := t8.2
        refine g_pure 3 (i' := 53) (lv' := [some (vR 0), some (vI (nI k)), some (vI (nI j)), some (vI (nI c)), some (vR 250), some (vI 1)]) (st' := [vI 9999, vI (S (113 + 6 * j + 3) + nI c)]) rfl ?_
        refine gW_eq (lv' := [some (vR 0), some (vI (nI k)), some (vI (nI j)), some (vI (nI c)), some (vR 250), some (vI 1)]) (st' := [vI 9999, vI (nI (sn S (113 + 6 * j + 3) + c))]) rfl (by rw [(show (S (113 + 6 * j + 3) + nI c) = nI (sn S (113 + 6 * j + 3) + c) from ((g_add t8.1 (rfl : nI c = nI c))).trans (congrArg nI (by omega)))]) rfl ?_
        refine g_if2 (i' := 59) (P := sn S (113 + 6 * j + 3) + c ≤ 9999) rfl rfl (g_leN (show nI (sn S (113 + 6 * j + 3) + c) = nI (sn S (113 + 6 * j + 3) + c) from (rfl : nI (sn S (113 + 6 * j + 3) + c) = nI (sn S (113 + 6 * j + 3) + c))) (show 9999 = nI 9999 from (show (9999 : Int32) = nI 9999 from rfl)) (by omega) (by omega)) (fun h9 => ?_) (fun h9 => ?_)
        · exact o4 h1 h3 h7 h9
        · refine g_thr' rfl rfl ?_
          exact o5 h1 h3 h7 h9

theorem b_154_e {X : Nat × (Nat → Int32)} {d : Nat} {p : Nat → Nat} {sg : Mg} {Q : am_R → Prop} {B : Nat} {S : Nat → Int32} (hI : Inv B S) (hL : cwL 250 sg S) (hD : cwD 200 sg S) {k : Nat} {j : Nat} {c : Nat} {z5 : Option AV} (u_k : k ≤ 7) (u_j : j ≤ 7) (u_c : c ≤ 9999) (q1 : k < sn S 1) (q2 : j < sn S 1) (q3 : 1 ≤ c) (q4 : ¬ k = j)
    (o1 : ∀ s2 : Mg, s2 = mu sg 255 k (nI (sn S (113 + 6 * k + 3)) - nI c) → ∀ s4 : Mg, s4 = mu s2 255 j (nI (sn S (113 + 6 * j + 3) + c)) → cwL 250 s4 (upd (upd S (113 + 6 * k + 3) (nI (sn S (113 + 6 * k + 3)) - nI c)) (113 + 6 * j + 3) (nI (sn S (113 + 6 * j + 3) + c))) → cwD 200 s4 (upd (upd S (113 + 6 * k + 3) (nI (sn S (113 + 6 * k + 3)) - nI c)) (113 + 6 * j + 3) (nI (sn S (113 + 6 * j + 3) + c))) → Q (gRv p s4 (nI (sn S (113 + 6 * j + 3) + c)))) :
    gW X (d + 6) k_154 61 [some (vR 0), some (vI (nI k)), some (vI (nI j)), some (vI (nI c)), some (vR 250), z5] [] p sg Q := by
  have b0 := hI.b0; have b1 := hI.b1; have b2 := hI.b2; have b3 := hI.b3; have b4 := hI.b4; have b5 := hI.b5; have b6 := hI.b6; have b7 := hI.b7; have b8 := hI.b8; have b9 := hI.b9; have b14 := hI.b14
  refine g_pure 4 (i' := 65) (lv' := [some (vR 0), some (vI (nI k)), some (vI (nI j)), some (vI (nI c)), some (vR 250), z5]) (st' := [vI (nI k), vR 255, vI (nI k), vR 255]) rfl ?_
  refine g_ald rfl (g_A (a := 255) (kd := 1) (n := 8) rfl (by decide)) (by decide) (show nI k = nI k from (rfl : nI k = nI k)) (by omega) (show _ = S (113 + 6 * k + 3) from (hL.per 3 (by decide) (by omega))) ?_
  have t1 := (hI.per (k := k) (by omega)).2.1
  have t1b := t1.2
  refine g_pure 1 (i' := 67) (lv' := [some (vR 0), some (vI (nI k)), some (vI (nI j)), some (vI (nI c)), some (vR 250), z5]) (st' := [vI (nI c), vI (S (113 + 6 * k + 3)), vI (nI k), vR 255]) rfl ?_
  refine gW_eq (lv' := [some (vR 0), some (vI (nI k)), some (vI (nI j)), some (vI (nI c)), some (vR 250), z5]) (st' := [vI (nI c), vI (nI (sn S (113 + 6 * k + 3))), vI (nI k), vR 255]) rfl (by rw [(show S (113 + 6 * k + 3) = nI (sn S (113 + 6 * k + 3)) from t1.1)]) rfl ?_
  refine g_pure 1 (i' := 68) (lv' := [some (vR 0), some (vI (nI k)), some (vI (nI j)), some (vI (nI c)), some (vR 250), z5]) (st' := [vI (nI (sn S (113 + 6 * k + 3)) - nI c), vI (nI k), vR 255]) rfl ?_
  refine g_ast rfl (g_A (a := 255) (kd := 1) (n := 8) rfl (by decide)) (by decide) (show nI k = nI k from (rfl : nI k = nI k)) (by omega) ?_
  refine g_setv (fun s2 es2 => ?_)
  have hLs2 : cwL 250 s2 (upd S (113 + 6 * k + 3) (nI (sn S (113 + 6 * k + 3)) - nI c)) := by rw [es2]; exact hL.wper (j := 3) (by decide) (by omega)
  have hDs2 : cwD 200 s2 (upd S (113 + 6 * k + 3) (nI (sn S (113 + 6 * k + 3)) - nI c)) := by rw [es2]; exact hD.life (by decide) (by unfold noLand; omega)
  refine g_pure 4 (i' := 73) (lv' := [some (vR 0), some (vI (nI k)), some (vI (nI j)), some (vI (nI c)), some (vR 250), z5]) (st' := [vI (nI j), vR 255, vI (nI j), vR 255]) rfl ?_
  refine g_ald rfl (g_A (a := 255) (kd := 1) (n := 8) rfl (by decide)) (by decide) (show nI j = nI j from (rfl : nI j = nI j)) (by omega) (show _ = S (113 + 6 * j + 3) from ((hLs2.per 3 (by decide) (by omega))).trans (upd_ne (by omega))) ?_
  have t3 := (hI.per (k := j) (by omega)).2.1
  have t3b := t3.2
  refine g_pure 2 (i' := 76) (lv' := [some (vR 0), some (vI (nI k)), some (vI (nI j)), some (vI (nI c)), some (vR 250), z5]) (st' := [vI (S (113 + 6 * j + 3) + nI c), vI (nI j), vR 255]) rfl ?_
  refine gW_eq (lv' := [some (vR 0), some (vI (nI k)), some (vI (nI j)), some (vI (nI c)), some (vR 250), z5]) (st' := [vI (nI (sn S (113 + 6 * j + 3) + c)), vI (nI j), vR 255]) rfl (by rw [(show (S (113 + 6 * j + 3) + nI c) = nI (sn S (113 + 6 * j + 3) + c) from ((g_add t3.1 (rfl : nI c = nI c))).trans (congrArg nI (by omega)))]) rfl ?_
  refine g_ast rfl (g_A (a := 255) (kd := 1) (n := 8) rfl (by decide)) (by decide) (show nI j = nI j from (rfl : nI j = nI j)) (by omega) ?_
  refine g_setv (fun s4 es4 => ?_)
  have hLs4 : cwL 250 s4 (upd (upd S (113 + 6 * k + 3) (nI (sn S (113 + 6 * k + 3)) - nI c)) (113 + 6 * j + 3) (nI (sn S (113 + 6 * j + 3) + c))) := by rw [es4]; exact hLs2.wper (j := 3) (by decide) (by omega)
  have hDs4 : cwD 200 s4 (upd (upd S (113 + 6 * k + 3) (nI (sn S (113 + 6 * k + 3)) - nI c)) (113 + 6 * j + 3) (nI (sn S (113 + 6 * j + 3) + c))) := by rw [es4]; exact hDs2.life (by decide) (by unfold noLand; omega)
  refine g_pure 3 (i' := 80) (lv' := [some (vR 0), some (vI (nI k)), some (vI (nI j)), some (vI (nI c)), some (vR 250), z5]) (st' := [vI (nI j), vR 255]) rfl ?_
  refine g_ald rfl (g_A (a := 255) (kd := 1) (n := 8) rfl (by decide)) (by decide) (show nI j = nI j from (rfl : nI j = nI j)) (by omega) (show _ = nI (sn S (113 + 6 * j + 3) + c) from ((hLs4.per 3 (by decide) (by omega))).trans upd_self) ?_
  refine g_iret rfl ?_
  exact o1 s2 es2 s4 es4 hLs4 hDs4

theorem b_256_0 {X : Nat × (Nat → Int32)} {d : Nat} {p : Nat → Nat} {sg : Mg} {Q : am_R → Prop} {B : Nat} {S : Nat → Int32} (hI : Inv B S) (hS : sg 801 = S) {x : Int32} {y : Int32} {z : Int32}
    (o1 : ∀ s1 : Mg, s1 = mu sg 800 0 0 → (¬ okx x (sn S 1)) → ∀ s3 : Mg, s3 = mu s1 800 0 (nI 1) → Q (gRv p s3 0))
    (o2 : ∀ s1 : Mg, s1 = mu sg 800 0 0 → ∀ n5 : Nat, x = nI n5 → n5 < sn S 1 → ∀ n7 : Nat, y = nI n7 → n7 < sn S 1 → (n5 = n7) → ∀ s10 : Mg, s10 = mu s1 800 0 (nI 2) → Q (gRv p s10 0))
    (o3 : ∀ s1 : Mg, s1 = mu sg 800 0 0 → ∀ n5 : Nat, x = nI n5 → n5 < sn S 1 → ∀ n7 : Nat, y = nI n7 → n7 < sn S 1 → (¬ (n5 = n7)) → ∀ n13 : Nat, z = nI n13 → 1 ≤ n13 ∧ n13 ≤ 9999 → gW X (d + 6) k_256 35 [some (vR 800), some (vI (nI n5)), some (vI (nI n7)), some (vI (nI n13)), none] [] p s1 Q)
    (o4 : ∀ s1 : Mg, s1 = mu sg 800 0 0 → ∀ n5 : Nat, x = nI n5 → n5 < sn S 1 → ∀ n7 : Nat, y = nI n7 → n7 < sn S 1 → (¬ (n5 = n7)) → (¬ (¬ (z < 1) ∧ ¬ (9999 < z))) → ∀ s15 : Mg, s15 = mu s1 800 0 (nI 2) → Q (gRv p s15 0))
    (o5 : ∀ s1 : Mg, s1 = mu sg 800 0 0 → ∀ n5 : Nat, x = nI n5 → n5 < sn S 1 → (¬ okx y (sn S 1)) → ∀ s17 : Mg, s17 = mu s1 800 0 (nI 1) → Q (gRv p s17 0)) :
    gW X (d + 6) k_256 0 [some (vR 800), some (vI x), some (vI y), some (vI z), none] [] p sg Q := by
  have b0 := hI.b0; have b1 := hI.b1; have b2 := hI.b2; have b3 := hI.b3; have b4 := hI.b4; have b5 := hI.b5; have b6 := hI.b6; have b7 := hI.b7; have b8 := hI.b8; have b9 := hI.b9; have b14 := hI.b14
  refine g_pure 2 (i' := 2) (lv' := [some (vR 800), some (vI x), some (vI y), some (vI z), none]) (st' := [vI 0, vR 800]) rfl ?_
  refine g_putI rfl (g_A (a := 800) (kd := 0) (n := 12) rfl (by decide)) ?_
  refine g_setv (fun s1 es1 => ?_)
  have hSs1 : s1 801 = S := by rw [es1, mu_ne (by decide), hS]
  refine g_pure 3 (i' := 6) (lv' := [some (vR 800), some (vI x), some (vI y), some (vI z), none]) (st' := [vI x, vR 800, vR 800]) rfl ?_
  refine g_cV1 rfl (args := [vR 800, vI x]) (rest := [vR 800]) rfl rfl rfl (s_237 (d := d + 4) hI hSs1) ?_
  refine g_if1 (i' := 12) (P := ¬ okx x (sn S 1)) rfl rfl g_neB (fun h2 => ?_) (fun h2 => ?_)
  · refine g_pure 3 (i' := 16) (lv' := [some (vR 800), some (vI x), some (vI y), some (vI z), none]) (st' := [vI 1, vI 1, vR 800]) rfl ?_
    refine gW_eq (st' := [vI (nI 1), vI 1, vR 800]) rfl (by rw [(show (1 : Int32) = nI 1 from rfl)]) rfl ?_
    refine g_cV1 rfl (args := [vR 800, vI 1, vI (nI 1)]) (rest := []) rfl rfl rfl (s_227t (d := d + 5) (by omega)) ?_
    refine g_setv (fun s3 es3 => ?_)
    have hSs3 : s3 801 = S := by rw [es3, mu_ne (by decide), hSs1]
    refine g_if1 (i' := 33) (P := ¬ 1 = 0) rfl rfl (g_neN (show 1 = nI 1 from (show (1 : Int32) = nI 1 from rfl)) (show 0 = nI 0 from (show (0 : Int32) = nI 0 from rfl)) (by omega) (by omega)) (fun _ => ?_) (fun h4 => absurd (by omega) h4)
    refine g_pure 1 (i' := 34) (lv' := [some (vR 800), some (vI x), some (vI y), some (vI z), none]) (st' := [vI 0]) rfl ?_
    refine g_iret rfl ?_
    exact o1 s1 es1 h2 s3 es3
  · have h2 := Classical.not_not.mp h2
    obtain ⟨n5, ln5, en5⟩ := okx_of h2
    subst en5
    refine g_pure 2 (i' := 10) (lv' := [some (vR 800), some (vI (nI n5)), some (vI y), some (vI z), none]) (st' := [vI y, vR 800, vR 800]) rfl ?_
    refine g_cV1 rfl (args := [vR 800, vI y]) (rest := [vR 800]) rfl rfl rfl (s_237 (d := d + 4) hI hSs1) ?_
    refine g_if1 (i' := 14) (P := okx y (sn S 1)) rfl rfl (g_eqB.trans Classical.not_not) (fun h6 => ?_) (fun h6 => ?_)
    · obtain ⟨n7, ln7, en7⟩ := okx_of h6
      subst en7
      refine g_pure 2 (i' := 16) (lv' := [some (vR 800), some (vI (nI n5)), some (vI (nI n7)), some (vI z), none]) (st' := [vI 1, vI 0, vR 800]) rfl ?_
      refine gW_eq (st' := [vI (nI 1), vI 0, vR 800]) rfl (by rw [(show (1 : Int32) = nI 1 from rfl)]) rfl ?_
      refine g_cV1 rfl (args := [vR 800, vI 0, vI (nI 1)]) (rest := []) rfl rfl rfl (s_227f (d := d + 5) (by omega)) ?_
      refine g_if1 (i' := 33) (P := ¬ 0 = 0) rfl rfl (g_neN (show 0 = nI 0 from (show (0 : Int32) = nI 0 from rfl)) (show 0 = nI 0 from (show (0 : Int32) = nI 0 from rfl)) (by omega) (by omega)) (fun h8 => absurd h8 (by omega)) (fun _ => ?_)
      refine g_pure 3 (i' := 21) (lv' := [some (vR 800), some (vI (nI n5)), some (vI (nI n7)), some (vI z), none]) (st' := [vI (nI n7), vI (nI n5), vR 800]) rfl ?_
      refine g_if2 (i' := 27) (P := n5 = n7) rfl rfl (g_eqN (show nI n5 = nI n5 from (rfl : nI n5 = nI n5)) (show nI n7 = nI n7 from (rfl : nI n7 = nI n7)) (by omega) (by omega)) (fun h9 => ?_) (fun h9 => ?_)
      · refine g_pure 3 (i' := 31) (lv' := [some (vR 800), some (vI (nI n5)), some (vI (nI n7)), some (vI z), none]) (st' := [vI 2, vI 1, vR 800]) rfl ?_
        refine gW_eq (st' := [vI (nI 2), vI 1, vR 800]) rfl (by rw [(show (2 : Int32) = nI 2 from rfl)]) rfl ?_
        refine g_cV1 rfl (args := [vR 800, vI 1, vI (nI 2)]) (rest := []) rfl rfl rfl (s_227t (d := d + 5) (by omega)) ?_
        refine g_setv (fun s10 es10 => ?_)
        have hSs10 : s10 801 = S := by rw [es10, mu_ne (by decide), hSs1]
        refine g_if1 (i' := 35) (P := 1 = 0) rfl rfl (g_eqN (show 1 = nI 1 from (show (1 : Int32) = nI 1 from rfl)) (show 0 = nI 0 from (show (0 : Int32) = nI 0 from rfl)) (by omega) (by omega)) (fun h11 => absurd h11 (by omega)) (fun _ => ?_)
        refine g_pure 1 (i' := 34) (lv' := [some (vR 800), some (vI (nI n5)), some (vI (nI n7)), some (vI z), none]) (st' := [vI 0]) rfl ?_
        refine g_iret rfl ?_
        exact o2 s1 es1 n5 rfl ln5 n7 rfl ln7 h9 s10 es10
      · refine g_pure 3 (i' := 25) (lv' := [some (vR 800), some (vI (nI n5)), some (vI (nI n7)), some (vI z), none]) (st' := [vI 9999, vI 1, vI z, vR 800]) rfl ?_
        refine g_cS1 rfl (args := [vI z, vI 1, vI 9999]) (rest := [vR 800]) rfl rfl rfl (s_231 (d := d + 5) ) ?_
        refine g_if1 (i' := 29) (P := (¬ (z < 1) ∧ ¬ (9999 < z))) rfl rfl g_neB (fun h12 => ?_) (fun h12 => ?_)
        · obtain ⟨n13, ln13, en13⟩ := okr_of (lo := 1) (hi := 9999) (by decide) h12
          subst en13
          refine g_pure 2 (i' := 31) (lv' := [some (vR 800), some (vI (nI n5)), some (vI (nI n7)), some (vI (nI n13)), none]) (st' := [vI 2, vI 0, vR 800]) rfl ?_
          refine gW_eq (st' := [vI (nI 2), vI 0, vR 800]) rfl (by rw [(show (2 : Int32) = nI 2 from rfl)]) rfl ?_
          refine g_cV1 rfl (args := [vR 800, vI 0, vI (nI 2)]) (rest := []) rfl rfl rfl (s_227f (d := d + 5) (by omega)) ?_
          refine g_if1 (i' := 35) (P := 0 = 0) rfl rfl (g_eqN (show 0 = nI 0 from (show (0 : Int32) = nI 0 from rfl)) (show 0 = nI 0 from (show (0 : Int32) = nI 0 from rfl)) (by omega) (by omega)) (fun _ => ?_) (fun h14 => absurd (by omega) h14)
          exact o3 s1 es1 n5 rfl ln5 n7 rfl ln7 h9 n13 rfl ln13
        · refine g_pure 3 (i' := 31) (lv' := [some (vR 800), some (vI (nI n5)), some (vI (nI n7)), some (vI z), none]) (st' := [vI 2, vI 1, vR 800]) rfl ?_
          refine gW_eq (st' := [vI (nI 2), vI 1, vR 800]) rfl (by rw [(show (2 : Int32) = nI 2 from rfl)]) rfl ?_
          refine g_cV1 rfl (args := [vR 800, vI 1, vI (nI 2)]) (rest := []) rfl rfl rfl (s_227t (d := d + 5) (by omega)) ?_
          refine g_setv (fun s15 es15 => ?_)
          have hSs15 : s15 801 = S := by rw [es15, mu_ne (by decide), hSs1]
          refine g_if1 (i' := 35) (P := 1 = 0) rfl rfl (g_eqN (show 1 = nI 1 from (show (1 : Int32) = nI 1 from rfl)) (show 0 = nI 0 from (show (0 : Int32) = nI 0 from rfl)) (by omega) (by omega)) (fun h16 => absurd h16 (by omega)) (fun _ => ?_)
          refine g_pure 1 (i' := 34) (lv' := [some (vR 800), some (vI (nI n5)), some (vI (nI n7)), some (vI z), none]) (st' := [vI 0]) rfl ?_
          refine g_iret rfl ?_
          exact o4 s1 es1 n5 rfl ln5 n7 rfl ln7 h9 h12 s15 es15
    · refine g_pure 3 (i' := 16) (lv' := [some (vR 800), some (vI (nI n5)), some (vI y), some (vI z), none]) (st' := [vI 1, vI 1, vR 800]) rfl ?_
      refine gW_eq (st' := [vI (nI 1), vI 1, vR 800]) rfl (by rw [(show (1 : Int32) = nI 1 from rfl)]) rfl ?_
      refine g_cV1 rfl (args := [vR 800, vI 1, vI (nI 1)]) (rest := []) rfl rfl rfl (s_227t (d := d + 5) (by omega)) ?_
      refine g_setv (fun s17 es17 => ?_)
      have hSs17 : s17 801 = S := by rw [es17, mu_ne (by decide), hSs1]
      refine g_if1 (i' := 33) (P := ¬ 1 = 0) rfl rfl (g_neN (show 1 = nI 1 from (show (1 : Int32) = nI 1 from rfl)) (show 0 = nI 0 from (show (0 : Int32) = nI 0 from rfl)) (by omega) (by omega)) (fun _ => ?_) (fun h18 => absurd (by omega) h18)
      refine g_pure 1 (i' := 34) (lv' := [some (vR 800), some (vI (nI n5)), some (vI y), some (vI z), none]) (st' := [vI 0]) rfl ?_
      refine g_iret rfl ?_
      exact o5 s1 es1 n5 rfl ln5 h6 s17 es17

theorem b_256_35 {X : Nat × (Nat → Int32)} {d : Nat} {p : Nat → Nat} {sg : Mg} {Q : am_R → Prop} {B : Nat} {S : Nat → Int32} (hI : Inv B S) (hS : sg 801 = S) {k : Nat} {j : Nat} {c : Nat} (u_k : k ≤ 7) (u_j : j ≤ 7) (u_c : c ≤ 9999) (q1 : k < sn S 1) (q2 : j < sn S 1) (q3 : 1 ≤ c) (q4 : ¬ k = j)
    (o1 : (S (113 + 6 * k) < 0) → ∀ s3 : Mg, s3 = mu sg 800 0 (nI 3) → Q (gRv p s3 0))
    (o2 : (¬ (S (113 + 6 * k) < 0)) → (¬ S (113 + 6 * k) = S (113 + 6 * j)) → ∀ s7 : Mg, s7 = mu sg 800 0 (nI 3) → Q (gRv p s7 0))
    (o3 : (¬ (S (113 + 6 * k) < 0)) → (S (113 + 6 * k) = S (113 + 6 * j)) → (sn S (113 + 6 * k + 3) < c) → ∀ s12 : Mg, s12 = mu sg 800 0 (nI 3) → Q (gRv p s12 0))
    (o4 : (¬ (S (113 + 6 * k) < 0)) → (S (113 + 6 * k) = S (113 + 6 * j)) → (¬ (sn S (113 + 6 * k + 3) < c)) → (9999 < sn S (113 + 6 * j + 3) + c) → ∀ s17 : Mg, s17 = mu sg 800 0 (nI 3) → Q (gRv p s17 0))
    (o5 : (¬ (S (113 + 6 * k) < 0)) → (S (113 + 6 * k) = S (113 + 6 * j)) → (¬ (sn S (113 + 6 * k + 3) < c)) → (¬ (9999 < sn S (113 + 6 * j + 3) + c)) → gW X (d + 6) k_256 78 [some (vR 800), some (vI (nI k)), some (vI (nI j)), some (vI (nI c)), some (vI 1)] [] p sg Q) :
    gW X (d + 6) k_256 35 [some (vR 800), some (vI (nI k)), some (vI (nI j)), some (vI (nI c)), none] [] p sg Q := by
  have b0 := hI.b0; have b1 := hI.b1; have b2 := hI.b2; have b3 := hI.b3; have b4 := hI.b4; have b5 := hI.b5; have b6 := hI.b6; have b7 := hI.b7; have b8 := hI.b8; have b9 := hI.b9; have b14 := hI.b14
  refine g_pure 3 (i' := 38) (lv' := [some (vR 800), some (vI (nI k)), some (vI (nI j)), some (vI (nI c)), none]) (st' := [vI 0, vI (nI k), vR 800]) rfl ?_
  refine gW_eq (st' := [vI (nI 0), vI (nI k), vR 800]) rfl (by rw [(show (0 : Int32) = nI 0 from rfl)]) rfl ?_
  refine g_cV1 rfl (args := [vR 800, vI (nI k), vI (nI 0)]) (rest := []) rfl rfl rfl (s_238 (d := d + 5) hS (by omega) (by omega)) ?_
  refine gW_eq (st' := [vI (S (113 + 6 * k))]) rfl (by rw [show S (113 + 6 * k + 0) = S (113 + 6 * k) from congrArg S (by omega)]) rfl ?_
  refine g_if1 (i' := 65) (P := S (113 + 6 * k) < 0) rfl rfl Iff.rfl (fun h1 => ?_) (fun h1 => ?_)
  · refine g_pure 4 (i' := 69) (lv' := [some (vR 800), some (vI (nI k)), some (vI (nI j)), some (vI (nI c)), some (vI 0)]) (st' := [vI 0, vR 800]) rfl ?_
    refine g_if1 (i' := 72) (P := ¬ 0 = 0) rfl rfl (g_neN (show 0 = nI 0 from (show (0 : Int32) = nI 0 from rfl)) (show 0 = nI 0 from (show (0 : Int32) = nI 0 from rfl)) (by omega) (by omega)) (fun h2 => absurd h2 (by omega)) (fun _ => ?_)
    refine g_pure 3 (i' := 74) (lv' := [some (vR 800), some (vI (nI k)), some (vI (nI j)), some (vI (nI c)), some (vI 0)]) (st' := [vI 3, vI 1, vR 800]) rfl ?_
    refine gW_eq (st' := [vI (nI 3), vI 1, vR 800]) rfl (by rw [(show (3 : Int32) = nI 3 from rfl)]) rfl ?_
    refine g_cV1 rfl (args := [vR 800, vI 1, vI (nI 3)]) (rest := []) rfl rfl rfl (s_227t (d := d + 5) (by omega)) ?_
    refine g_setv (fun s3 es3 => ?_)
    have hSs3 : s3 801 = S := by rw [es3, mu_ne (by decide), hS]
    refine g_if1 (i' := 78) (P := 1 = 0) rfl rfl (g_eqN (show 1 = nI 1 from (show (1 : Int32) = nI 1 from rfl)) (show 0 = nI 0 from (show (0 : Int32) = nI 0 from rfl)) (by omega) (by omega)) (fun h4 => absurd h4 (by omega)) (fun _ => ?_)
    refine g_pure 1 (i' := 77) (lv' := [some (vR 800), some (vI (nI k)), some (vI (nI j)), some (vI (nI c)), some (vI 0)]) (st' := [vI 0]) rfl ?_
    refine g_iret rfl ?_
    exact o1 h1 s3 es3
  · refine g_pure 3 (i' := 43) (lv' := [some (vR 800), some (vI (nI k)), some (vI (nI j)), some (vI (nI c)), none]) (st' := [vI 0, vI (nI k), vR 800]) rfl ?_
    refine gW_eq (st' := [vI (nI 0), vI (nI k), vR 800]) rfl (by rw [(show (0 : Int32) = nI 0 from rfl)]) rfl ?_
    refine g_cV1 rfl (args := [vR 800, vI (nI k), vI (nI 0)]) (rest := []) rfl rfl rfl (s_238 (d := d + 5) hS (by omega) (by omega)) ?_
    refine gW_eq (st' := [vI (S (113 + 6 * k))]) rfl (by rw [show S (113 + 6 * k + 0) = S (113 + 6 * k) from congrArg S (by omega)]) rfl ?_
    refine g_pure 3 (i' := 47) (lv' := [some (vR 800), some (vI (nI k)), some (vI (nI j)), some (vI (nI c)), none]) (st' := [vI 0, vI (nI j), vR 800, vI (S (113 + 6 * k))]) rfl ?_
    refine gW_eq (st' := [vI (nI 0), vI (nI j), vR 800, vI (S (113 + 6 * k))]) rfl (by rw [(show (0 : Int32) = nI 0 from rfl)]) rfl ?_
    refine g_cV1 rfl (args := [vR 800, vI (nI j), vI (nI 0)]) (rest := [vI (S (113 + 6 * k))]) rfl rfl rfl (s_238 (d := d + 5) hS (by omega) (by omega)) ?_
    refine gW_eq (st' := [vI (S (113 + 6 * j)), vI (S (113 + 6 * k))]) rfl (by rw [show S (113 + 6 * j + 0) = S (113 + 6 * j) from congrArg S (by omega)]) rfl ?_
    refine g_if2 (i' := 65) (P := ¬ S (113 + 6 * k) = S (113 + 6 * j)) rfl rfl Iff.rfl (fun h5 => ?_) (fun h5 => ?_)
    · refine g_pure 4 (i' := 69) (lv' := [some (vR 800), some (vI (nI k)), some (vI (nI j)), some (vI (nI c)), some (vI 0)]) (st' := [vI 0, vR 800]) rfl ?_
      refine g_if1 (i' := 72) (P := ¬ 0 = 0) rfl rfl (g_neN (show 0 = nI 0 from (show (0 : Int32) = nI 0 from rfl)) (show 0 = nI 0 from (show (0 : Int32) = nI 0 from rfl)) (by omega) (by omega)) (fun h6 => absurd h6 (by omega)) (fun _ => ?_)
      refine g_pure 3 (i' := 74) (lv' := [some (vR 800), some (vI (nI k)), some (vI (nI j)), some (vI (nI c)), some (vI 0)]) (st' := [vI 3, vI 1, vR 800]) rfl ?_
      refine gW_eq (st' := [vI (nI 3), vI 1, vR 800]) rfl (by rw [(show (3 : Int32) = nI 3 from rfl)]) rfl ?_
      refine g_cV1 rfl (args := [vR 800, vI 1, vI (nI 3)]) (rest := []) rfl rfl rfl (s_227t (d := d + 5) (by omega)) ?_
      refine g_setv (fun s7 es7 => ?_)
      have hSs7 : s7 801 = S := by rw [es7, mu_ne (by decide), hS]
      refine g_if1 (i' := 78) (P := 1 = 0) rfl rfl (g_eqN (show 1 = nI 1 from (show (1 : Int32) = nI 1 from rfl)) (show 0 = nI 0 from (show (0 : Int32) = nI 0 from rfl)) (by omega) (by omega)) (fun h8 => absurd h8 (by omega)) (fun _ => ?_)
      refine g_pure 1 (i' := 77) (lv' := [some (vR 800), some (vI (nI k)), some (vI (nI j)), some (vI (nI c)), some (vI 0)]) (st' := [vI 0]) rfl ?_
      refine g_iret rfl ?_
      exact o2 h1 h5 s7 es7
    · have h5 := Classical.not_not.mp h5
      refine g_pure 3 (i' := 52) (lv' := [some (vR 800), some (vI (nI k)), some (vI (nI j)), some (vI (nI c)), none]) (st' := [vI 3, vI (nI k), vR 800]) rfl ?_
      refine gW_eq (st' := [vI (nI 3), vI (nI k), vR 800]) rfl (by rw [(show (3 : Int32) = nI 3 from rfl)]) rfl ?_
      refine g_cV1 rfl (args := [vR 800, vI (nI k), vI (nI 3)]) (rest := []) rfl rfl rfl (s_238 (d := d + 5) hS (by omega) (by omega)) ?_
      refine g_pure 1 (i' := 54) (lv' := [some (vR 800), some (vI (nI k)), some (vI (nI j)), some (vI (nI c)), none]) (st' := [vI (nI c), vI (S (113 + 6 * k + 3))]) rfl ?_
      have t9 := (hI.per (k := k) (by omega)).2.1
      have t9b := t9.2
      refine g_if2 (i' := 65) (P := sn S (113 + 6 * k + 3) < c) rfl rfl (g_ltN (show S (113 + 6 * k + 3) = nI (sn S (113 + 6 * k + 3)) from t9.1) (show nI c = nI c from (rfl : nI c = nI c)) (by omega) (by omega)) (fun h10 => ?_) (fun h10 => ?_)
      · refine g_pure 4 (i' := 69) (lv' := [some (vR 800), some (vI (nI k)), some (vI (nI j)), some (vI (nI c)), some (vI 0)]) (st' := [vI 0, vR 800]) rfl ?_
        refine g_if1 (i' := 72) (P := ¬ 0 = 0) rfl rfl (g_neN (show 0 = nI 0 from (show (0 : Int32) = nI 0 from rfl)) (show 0 = nI 0 from (show (0 : Int32) = nI 0 from rfl)) (by omega) (by omega)) (fun h11 => absurd h11 (by omega)) (fun _ => ?_)
        refine g_pure 3 (i' := 74) (lv' := [some (vR 800), some (vI (nI k)), some (vI (nI j)), some (vI (nI c)), some (vI 0)]) (st' := [vI 3, vI 1, vR 800]) rfl ?_
        refine gW_eq (st' := [vI (nI 3), vI 1, vR 800]) rfl (by rw [(show (3 : Int32) = nI 3 from rfl)]) rfl ?_
        refine g_cV1 rfl (args := [vR 800, vI 1, vI (nI 3)]) (rest := []) rfl rfl rfl (s_227t (d := d + 5) (by omega)) ?_
        refine g_setv (fun s12 es12 => ?_)
        have hSs12 : s12 801 = S := by rw [es12, mu_ne (by decide), hS]
        refine g_if1 (i' := 78) (P := 1 = 0) rfl rfl (g_eqN (show 1 = nI 1 from (show (1 : Int32) = nI 1 from rfl)) (show 0 = nI 0 from (show (0 : Int32) = nI 0 from rfl)) (by omega) (by omega)) (fun h13 => absurd h13 (by omega)) (fun _ => ?_)
        refine g_pure 1 (i' := 77) (lv' := [some (vR 800), some (vI (nI k)), some (vI (nI j)), some (vI (nI c)), some (vI 0)]) (st' := [vI 0]) rfl ?_
        refine g_iret rfl ?_
        exact o3 h1 h5 h10 s12 es12
      · refine g_pure 3 (i' := 58) (lv' := [some (vR 800), some (vI (nI k)), some (vI (nI j)), some (vI (nI c)), none]) (st' := [vI 3, vI (nI j), vR 800]) rfl ?_
        refine gW_eq (st' := [vI (nI 3), vI (nI j), vR 800]) rfl (by rw [(show (3 : Int32) = nI 3 from rfl)]) rfl ?_
        refine g_cV1 rfl (args := [vR 800, vI (nI j), vI (nI 3)]) (rest := []) rfl rfl rfl (s_238 (d := d + 5) hS (by omega) (by omega)) ?_
        have t14 := (hI.per (k := j) (by omega)).2.1
        have t14b := t14.2
        refine g_pure 3 (i' := 62) (lv' := [some (vR 800), some (vI (nI k)), some (vI (nI j)), some (vI (nI c)), none]) (st' := [vI 9999, vI (S (113 + 6 * j + 3) + nI c)]) rfl ?_
        refine gW_eq (lv' := [some (vR 800), some (vI (nI k)), some (vI (nI j)), some (vI (nI c)), none]) (st' := [vI 9999, vI (nI (sn S (113 + 6 * j + 3) + c))]) rfl (by rw [(show (S (113 + 6 * j + 3) + nI c) = nI (sn S (113 + 6 * j + 3) + c) from ((g_add t14.1 (rfl : nI c = nI c))).trans (congrArg nI (by omega)))]) rfl ?_
        refine g_if2 (i' := 65) (P := 9999 < sn S (113 + 6 * j + 3) + c) rfl rfl (g_gtN (show nI (sn S (113 + 6 * j + 3) + c) = nI (sn S (113 + 6 * j + 3) + c) from (rfl : nI (sn S (113 + 6 * j + 3) + c) = nI (sn S (113 + 6 * j + 3) + c))) (show 9999 = nI 9999 from (show (9999 : Int32) = nI 9999 from rfl)) (by omega) (by omega)) (fun h15 => ?_) (fun h15 => ?_)
        · refine g_pure 4 (i' := 69) (lv' := [some (vR 800), some (vI (nI k)), some (vI (nI j)), some (vI (nI c)), some (vI 0)]) (st' := [vI 0, vR 800]) rfl ?_
          refine g_if1 (i' := 72) (P := ¬ 0 = 0) rfl rfl (g_neN (show 0 = nI 0 from (show (0 : Int32) = nI 0 from rfl)) (show 0 = nI 0 from (show (0 : Int32) = nI 0 from rfl)) (by omega) (by omega)) (fun h16 => absurd h16 (by omega)) (fun _ => ?_)
          refine g_pure 3 (i' := 74) (lv' := [some (vR 800), some (vI (nI k)), some (vI (nI j)), some (vI (nI c)), some (vI 0)]) (st' := [vI 3, vI 1, vR 800]) rfl ?_
          refine gW_eq (st' := [vI (nI 3), vI 1, vR 800]) rfl (by rw [(show (3 : Int32) = nI 3 from rfl)]) rfl ?_
          refine g_cV1 rfl (args := [vR 800, vI 1, vI (nI 3)]) (rest := []) rfl rfl rfl (s_227t (d := d + 5) (by omega)) ?_
          refine g_setv (fun s17 es17 => ?_)
          have hSs17 : s17 801 = S := by rw [es17, mu_ne (by decide), hS]
          refine g_if1 (i' := 78) (P := 1 = 0) rfl rfl (g_eqN (show 1 = nI 1 from (show (1 : Int32) = nI 1 from rfl)) (show 0 = nI 0 from (show (0 : Int32) = nI 0 from rfl)) (by omega) (by omega)) (fun h18 => absurd h18 (by omega)) (fun _ => ?_)
          refine g_pure 1 (i' := 77) (lv' := [some (vR 800), some (vI (nI k)), some (vI (nI j)), some (vI (nI c)), some (vI 0)]) (st' := [vI 0]) rfl ?_
          refine g_iret rfl ?_
          exact o4 h1 h5 h10 h15 s17 es17
        · refine g_pure 5 (i' := 69) (lv' := [some (vR 800), some (vI (nI k)), some (vI (nI j)), some (vI (nI c)), some (vI 1)]) (st' := [vI 1, vR 800]) rfl ?_
          refine g_if1 (i' := 72) (P := ¬ 1 = 0) rfl rfl (g_neN (show 1 = nI 1 from (show (1 : Int32) = nI 1 from rfl)) (show 0 = nI 0 from (show (0 : Int32) = nI 0 from rfl)) (by omega) (by omega)) (fun _ => ?_) (fun h19 => absurd (by omega) h19)
          refine g_pure 2 (i' := 74) (lv' := [some (vR 800), some (vI (nI k)), some (vI (nI j)), some (vI (nI c)), some (vI 1)]) (st' := [vI 3, vI 0, vR 800]) rfl ?_
          refine gW_eq (st' := [vI (nI 3), vI 0, vR 800]) rfl (by rw [(show (3 : Int32) = nI 3 from rfl)]) rfl ?_
          refine g_cV1 rfl (args := [vR 800, vI 0, vI (nI 3)]) (rest := []) rfl rfl rfl (s_227f (d := d + 5) (by omega)) ?_
          refine g_if1 (i' := 78) (P := 0 = 0) rfl rfl (g_eqN (show 0 = nI 0 from (show (0 : Int32) = nI 0 from rfl)) (show 0 = nI 0 from (show (0 : Int32) = nI 0 from rfl)) (by omega) (by omega)) (fun _ => ?_) (fun h20 => absurd (by omega) h20)
          exact o5 h1 h5 h10 h15

theorem b_256_e {X : Nat × (Nat → Int32)} {d : Nat} {p : Nat → Nat} {sg : Mg} {Q : am_R → Prop} {B : Nat} {S : Nat → Int32} (hI : Inv B S) (hS : sg 801 = S) {k : Nat} {j : Nat} {c : Nat} {z4 : Option AV} (u_k : k ≤ 7) (u_j : j ≤ 7) (u_c : c ≤ 9999) (q1 : k < sn S 1) (q2 : j < sn S 1) (q3 : 1 ≤ c) (q4 : ¬ k = j)
    (o1 : ∀ s2 : Mg, s2 = mu sg 801 (113 + 6 * k + 3) (nI (sn S (113 + 6 * k + 3)) - nI c) → ∀ s4 : Mg, s4 = mu s2 801 (113 + 6 * j + 3) (nI (sn S (113 + 6 * j + 3) + c)) → s4 801 = (upd (upd S (113 + 6 * k + 3) (nI (sn S (113 + 6 * k + 3)) - nI c)) (113 + 6 * j + 3) (nI (sn S (113 + 6 * j + 3) + c))) → Q (gRv p s4 (nI (sn S (113 + 6 * j + 3) + c)))) :
    gW X (d + 6) k_256 80 [some (vR 800), some (vI (nI k)), some (vI (nI j)), some (vI (nI c)), z4] [] p sg Q := by
  have b0 := hI.b0; have b1 := hI.b1; have b2 := hI.b2; have b3 := hI.b3; have b4 := hI.b4; have b5 := hI.b5; have b6 := hI.b6; have b7 := hI.b7; have b8 := hI.b8; have b9 := hI.b9; have b14 := hI.b14
  refine g_pure 6 (i' := 86) (lv' := [some (vR 800), some (vI (nI k)), some (vI (nI j)), some (vI (nI c)), z4]) (st' := [vI 3, vI (nI k), vR 800, vI 3, vI (nI k), vR 800]) rfl ?_
  refine gW_eq (st' := [vI (nI 3), vI (nI k), vR 800, vI 3, vI (nI k), vR 800]) rfl (by rw [(show (3 : Int32) = nI 3 from rfl)]) rfl ?_
  refine g_cV1 rfl (args := [vR 800, vI (nI k), vI (nI 3)]) (rest := [vI 3, vI (nI k), vR 800]) rfl rfl rfl (s_238 (d := d + 5) hS (by omega) (by omega)) ?_
  have t1 := (hI.per (k := k) (by omega)).2.1
  have t1b := t1.2
  refine g_pure 1 (i' := 88) (lv' := [some (vR 800), some (vI (nI k)), some (vI (nI j)), some (vI (nI c)), z4]) (st' := [vI (nI c), vI (S (113 + 6 * k + 3)), vI 3, vI (nI k), vR 800]) rfl ?_
  refine gW_eq (lv' := [some (vR 800), some (vI (nI k)), some (vI (nI j)), some (vI (nI c)), z4]) (st' := [vI (nI c), vI (nI (sn S (113 + 6 * k + 3))), vI 3, vI (nI k), vR 800]) rfl (by rw [(show S (113 + 6 * k + 3) = nI (sn S (113 + 6 * k + 3)) from t1.1)]) rfl ?_
  refine g_pure 1 (i' := 89) (lv' := [some (vR 800), some (vI (nI k)), some (vI (nI j)), some (vI (nI c)), z4]) (st' := [vI (nI (sn S (113 + 6 * k + 3)) - nI c), vI 3, vI (nI k), vR 800]) rfl ?_
  refine gW_eq (st' := [vI (nI (sn S (113 + 6 * k + 3)) - nI c), vI (nI 3), vI (nI k), vR 800]) rfl (by rw [(show (3 : Int32) = nI 3 from rfl)]) rfl ?_
  refine g_cV0 rfl (args := [vR 800, vI (nI k), vI (nI 3), vI (nI (sn S (113 + 6 * k + 3)) - nI c)]) (rest := []) rfl rfl rfl (s_205 (d := d + 5) (by omega) (by omega)) ?_
  refine g_setv (fun s2 es2 => ?_)
  have hSs2 : s2 801 = upd S (113 + 6 * k + 3) (nI (sn S (113 + 6 * k + 3)) - nI c) := by rw [es2, mu_row, hS]
  refine g_pure 6 (i' := 96) (lv' := [some (vR 800), some (vI (nI k)), some (vI (nI j)), some (vI (nI c)), z4]) (st' := [vI 3, vI (nI j), vR 800, vI 3, vI (nI j), vR 800]) rfl ?_
  refine gW_eq (st' := [vI (nI 3), vI (nI j), vR 800, vI 3, vI (nI j), vR 800]) rfl (by rw [(show (3 : Int32) = nI 3 from rfl)]) rfl ?_
  refine g_cV1 rfl (args := [vR 800, vI (nI j), vI (nI 3)]) (rest := [vI 3, vI (nI j), vR 800]) rfl rfl rfl (s_238 (d := d + 5) hSs2 (by omega) (by omega)) ?_
  refine gW_eq (st' := [vI (S (113 + 6 * j + 3)), vI 3, vI (nI j), vR 800]) rfl (by rw [show (upd S (113 + 6 * k + 3) (nI (sn S (113 + 6 * k + 3)) - nI c)) (113 + 6 * j + 3) = S (113 + 6 * j + 3) from (show (upd S (113 + 6 * k + 3) (nI (sn S (113 + 6 * k + 3)) - nI c)) (113 + 6 * j + 3) = S (113 + 6 * j + 3) from (rfl).trans (upd_ne (by omega)))]) rfl ?_
  have t3 := (hI.per (k := j) (by omega)).2.1
  have t3b := t3.2
  refine g_pure 2 (i' := 99) (lv' := [some (vR 800), some (vI (nI k)), some (vI (nI j)), some (vI (nI c)), z4]) (st' := [vI (S (113 + 6 * j + 3) + nI c), vI 3, vI (nI j), vR 800]) rfl ?_
  refine gW_eq (lv' := [some (vR 800), some (vI (nI k)), some (vI (nI j)), some (vI (nI c)), z4]) (st' := [vI (nI (sn S (113 + 6 * j + 3) + c)), vI 3, vI (nI j), vR 800]) rfl (by rw [(show (S (113 + 6 * j + 3) + nI c) = nI (sn S (113 + 6 * j + 3) + c) from ((g_add t3.1 (rfl : nI c = nI c))).trans (congrArg nI (by omega)))]) rfl ?_
  refine gW_eq (st' := [vI (nI (sn S (113 + 6 * j + 3) + c)), vI (nI 3), vI (nI j), vR 800]) rfl (by rw [(show (3 : Int32) = nI 3 from rfl)]) rfl ?_
  refine g_cV0 rfl (args := [vR 800, vI (nI j), vI (nI 3), vI (nI (sn S (113 + 6 * j + 3) + c))]) (rest := []) rfl rfl rfl (s_205 (d := d + 5) (by omega) (by omega)) ?_
  refine g_setv (fun s4 es4 => ?_)
  have hSs4 : s4 801 = upd (upd S (113 + 6 * k + 3) (nI (sn S (113 + 6 * k + 3)) - nI c)) (113 + 6 * j + 3) (nI (sn S (113 + 6 * j + 3) + c)) := by rw [es4, mu_row, hSs2]
  refine g_pure 3 (i' := 103) (lv' := [some (vR 800), some (vI (nI k)), some (vI (nI j)), some (vI (nI c)), z4]) (st' := [vI 3, vI (nI j), vR 800]) rfl ?_
  refine gW_eq (st' := [vI (nI 3), vI (nI j), vR 800]) rfl (by rw [(show (3 : Int32) = nI 3 from rfl)]) rfl ?_
  refine g_cV1 rfl (args := [vR 800, vI (nI j), vI (nI 3)]) (rest := []) rfl rfl rfl (s_238 (d := d + 5) hSs4 (by omega) (by omega)) ?_
  refine gW_eq (st' := [vI (nI (sn S (113 + 6 * j + 3) + c))]) rfl (by rw [show (upd (upd S (113 + 6 * k + 3) (nI (sn S (113 + 6 * k + 3)) - nI c)) (113 + 6 * j + 3) (nI (sn S (113 + 6 * j + 3) + c))) (113 + 6 * j + 3) = (nI (sn S (113 + 6 * j + 3) + c)) from (show (upd (upd S (113 + 6 * k + 3) (nI (sn S (113 + 6 * k + 3)) - nI c)) (113 + 6 * j + 3) (nI (sn S (113 + 6 * j + 3) + c))) (113 + 6 * j + 3) = (nI (sn S (113 + 6 * j + 3) + c)) from (rfl).trans upd_self)]) rfl ?_
  refine g_iret rfl ?_
  exact o1 s2 es2 s4 es4 hSs4

theorem c_give {X : Nat × (Nat → Int32)} {d : Nat} {p : Nat → Nat} {sg : Mg} {B : Nat} {A : AS} (hI : RI B A) (hR : RC A p sg) {x y z : Int32} : gF X (d + 7) 154 [vR 0, vI x, vI y, vI z] p sg (cR A (A.act (gvT A.S x.toNatClampNeg y.toNatClampNeg z.toNatClampNeg)) (fun c => if c = 1 then 2 else if c = 2 then 0 else 4) (giveR A.S x y z) sg) := by
  have b0 := hI.1.b0; have b1 := hI.1.b1
  refine g_in (cd := k_154) (nL := 6) (rc := 12) rfl (g_A (a := 0) (kd := 0) (n := 11) rfl (by decide)) (g_c1 rfl) (b_154_0 hI.1 hR.2.1.1 hR.2.1.2.1 (fun k ek hk j ej hj c ec hc hne => ?_) (fun k ek hk j ej hj c ec hc hne => ?_) (fun k ek hk j ej hj h => ?_) (fun k ek hk h => ?_) (fun h => ?_))
  · subst ek ej ec
    have hcv : giveR A.S (nI k) (nI j) (nI c) = if gvOK A.S k j c then (0, nI (sn A.S (113 + 6 * j + 3) + c)) else (3, 0) := by
      unfold giveR
      rw [if_pos ((okx_nI (by omega)).mpr (by omega)), if_pos ((okx_nI (by omega)).mpr (by omega)), if_pos ⟨(okr_nI (by omega) (by omega) (by omega)).mpr hc, fun h => hne ((nI_eq (by omega) (by omega)).mp h)⟩, nI_clamp (by omega), nI_clamp (by omega), nI_clamp (by omega)]
    rw [hcv]
    simp (disch := omega) only [nI_clamp]
    refine b_154_15 hI.1 hR.2.1.1 hR.2.1.2.1 (by omega) (by omega) hc.2 hk hj hc.1 hne (fun h => ?_) (fun h1 h2 => ?_) (fun h1 h2 h3 => ?_) (fun h1 h2 h3 h4 => ?_) (fun h1 h2 h3 h4 => ?_)
    · exact cR_x hR (fun _ _ => rfl) (c := 2) (by rw [if_neg (fun g => g.1 h)]) rfl
    · exact cR_x hR (fun _ _ => rfl) (c := 2) (by rw [if_neg (fun g => h2 g.2.1)]) rfl
    · exact cR_x hR (fun _ _ => rfl) (c := 2) (by rw [if_neg (fun g => by have := g.2.2.1; omega)]) rfl
    · have hok : gvOK A.S k j c := ⟨h1, h2, by omega, h4⟩
      rw [if_pos hok]
      refine g_pure 1 (i' := 60) (lv' := [some (vR 0), some (vI (nI k)), some (vI (nI j)), some (vI (nI c)), some (vR 250), some (vI 1)]) (st' := [vR 0]) rfl ?_
      refine g_calV rfl (args := [vR 0]) (rest := []) rfl rfl (Nat.zero_le _) (s_153r (d := d + 1) hI hR) (fun q hq => ?_)
      obtain ⟨s5, h5, rfl⟩ := hq
      refine gK_0 (b_154_e hI.1 (h5.L hI hR) (h5.D hI hR) (by omega) (by omega) hc.2 hk hj hc.1 hne (fun s6 e6 s7 e7 g1 g2 => ?_))
      rw [nI_sub (by omega)] at g1 g2
      refine h5.act hI hR (fun c' c1 c2 c3 c4 c5 => ?_) ⟨g1, g2⟩ (gvT_inv hI hk hj hne hok).2.2 (fun _ _ => rfl)
      rw [e7, mu_ne (by omega), e6, mu_ne (by omega)]
    · exact cR_x hR (fun _ _ => rfl) (c := 2) (by rw [if_neg (fun g => h4 g.2.2.2)]) rfl
  · subst ek ej ec hne
    refine cR_x hR (fun _ _ => rfl) (c := 1) ?_ rfl
    unfold giveR
    rw [if_pos ((okx_nI (by omega)).mpr (by omega)), if_pos ((okx_nI (by omega)).mpr (by omega)), if_neg (fun h => h.2 rfl)]
  · subst ek ej
    refine cR_x hR (fun _ _ => rfl) (c := 1) ?_ rfl
    unfold giveR
    rw [if_pos ((okx_nI (by omega)).mpr (by omega)), if_pos ((okx_nI (by omega)).mpr (by omega)), if_neg (fun g => h g.1)]
  · subst ek
    refine cR_x hR (fun _ _ => rfl) (c := 0) ?_ rfl
    unfold giveR
    rw [if_pos ((okx_nI (by omega)).mpr (by omega)), if_neg h]
  · refine cR_x hR (fun _ _ => rfl) (c := 0) ?_ rfl
    unfold giveR
    rw [if_neg h]

theorem m_give {X : Nat × (Nat → Int32)} {d : Nat} {p : Nat → Nat} {sg : Mg} {B : Nat} {A : AS} (hI : RI B A) (hR : RM A sg) {x y z : Int32} : gF X (d + 7) 256 [vR 800, vI x, vI y, vI z] p sg (mR A (A.act (gvT A.S x.toNatClampNeg y.toNatClampNeg z.toNatClampNeg)) (giveR A.S x y z) p sg) := by
  have b0 := hI.1.b0; have b1 := hI.1.b1
  refine g_in (cd := k_256) (nL := 5) (rc := 13) rfl (g_A (a := 800) (kd := 0) (n := 12) rfl (by decide)) (g_c1 rfl) (b_256_0 hI.1 hR.1 (fun s1 f1 h s3 f3 => ?_) (fun s1 f1 k ek hk j ej hj hne s3 f3 => ?_) (fun s1 f1 k ek hk j ej hj hne c ec hc => ?_) (fun s1 f1 k ek hk j ej hj hne h s3 f3 => ?_) (fun s1 f1 k ek hk h s3 f3 => ?_))
  · refine mR_x ((hR.th f1).th f3) (fun c hc => by rw [f3, f1, up_hi hc, up_hi hc]) (c := 0) (by rw [f3, mu_self]) ?_
    unfold giveR
    rw [if_neg h]
  · subst ek ej hne
    refine mR_x ((hR.th f1).th f3) (fun c hc => by rw [f3, f1, up_hi hc, up_hi hc]) (c := 1) (by rw [f3, mu_self]) ?_
    unfold giveR
    rw [if_pos ((okx_nI (by omega)).mpr (by omega)), if_pos ((okx_nI (by omega)).mpr (by omega)), if_neg (fun h => h.2 rfl)]
  · subst ek ej ec
    have hcv : giveR A.S (nI k) (nI j) (nI c) = if gvOK A.S k j c then (0, nI (sn A.S (113 + 6 * j + 3) + c)) else (3, 0) := by
      unfold giveR
      rw [if_pos ((okx_nI (by omega)).mpr (by omega)), if_pos ((okx_nI (by omega)).mpr (by omega)), if_pos ⟨(okr_nI (by omega) (by omega) (by omega)).mpr hc, fun h => hne ((nI_eq (by omega) (by omega)).mp h)⟩, nI_clamp (by omega), nI_clamp (by omega), nI_clamp (by omega)]
    rw [hcv]
    simp (disch := omega) only [nI_clamp]
    have hR1 := hR.th f1
    have hh : ∀ c, c < 800 ∨ 900 ≤ c → s1 c = sg c := fun c hc => by rw [f1, up_hi hc]
    have h0 : s1 800 0 = 0 := by rw [f1, mu_self]
    have hm : ¬ A.S (113 + 6 * k) < 0 ↔ ¬ A.S (113 + 6 * k) = -1 := by
      rcases (hI.1.per hk).1 with hw | hw
      · have := hw.1.2
        rw [hw.1.1]
        exact ⟨fun _ => nI_m1 (by omega), fun _ => nI_pos (by omega)⟩
      · rw [hw.1]; decide
    refine b_256_35 hI.1 hR1.1 (by omega) (by omega) hc.2 hk hj hc.1 hne (fun h1 s3 f3 => ?_) (fun h1 h2 s3 f3 => ?_) (fun h1 h2 h3 s3 f3 => ?_) (fun h1 h2 h3 h4 s3 f3 => ?_) (fun h1 h2 h3 h4 => ?_)
    · exact mR_x (hR1.th f3) (fun c hc => by rw [f3, up_hi hc, hh c hc]) (c := 2) (by rw [f3, mu_self]) (by rw [if_neg (fun g => hm.mpr g.1 h1)])
    · exact mR_x (hR1.th f3) (fun c hc => by rw [f3, up_hi hc, hh c hc]) (c := 2) (by rw [f3, mu_self]) (by rw [if_neg (fun g => h2 g.2.1)])
    · exact mR_x (hR1.th f3) (fun c hc => by rw [f3, up_hi hc, hh c hc]) (c := 2) (by rw [f3, mu_self]) (by rw [if_neg (fun g => by have := g.2.2.1; omega)])
    · exact mR_x (hR1.th f3) (fun c hc => by rw [f3, up_hi hc, hh c hc]) (c := 2) (by rw [f3, mu_self]) (by rw [if_neg (fun g => by have := g.2.2.2; omega)])
    · have hok : gvOK A.S k j c := ⟨hm.mp h1, h2, by omega, by omega⟩
      rw [if_pos hok]
      refine g_pure 1 (i' := 79) (lv' := [some (vR 800), some (vI (nI k)), some (vI (nI j)), some (vI (nI c)), some (vI 1)]) (st' := [vR 800]) rfl ?_
      refine g_calV rfl (args := [vR 800]) (rest := []) rfl rfl (Nat.zero_le _) (s_255r (d := d + 5) hI hR1) (fun q hq => ?_)
      subst hq
      refine gK_0 (b_256_e (S := A.S) hI.1 (rmM_S hR1) (by omega) (by omega) hc.2 hk hj hc.1 hne (fun s6 e6 s7 e7 g1 => ?_))
      rw [nI_sub (by omega)] at g1
      refine rmM_act hI hR1 (fun c c1 c2 c3 => ?_) g1 hh h0
      rw [e7, mu_ne c1, e6, mu_ne c1]
  · subst ek ej
    refine mR_x ((hR.th f1).th f3) (fun c hc => by rw [f3, f1, up_hi hc, up_hi hc]) (c := 1) (by rw [f3, mu_self]) ?_
    unfold giveR
    rw [if_pos ((okx_nI (by omega)).mpr (by omega)), if_pos ((okx_nI (by omega)).mpr (by omega)), if_neg (fun g => h g.1)]
  · subst ek
    refine mR_x ((hR.th f1).th f3) (fun c hc => by rw [f3, f1, up_hi hc, up_hi hc]) (c := 0) (by rw [f3, mu_self]) ?_
    unfold giveR
    rw [if_pos ((okx_nI (by omega)).mpr (by omega)), if_neg h]
