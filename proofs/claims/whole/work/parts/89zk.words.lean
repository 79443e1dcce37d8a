/-! TEXTS: words and numbers, in the class (made by wip/whole/gen89zk.py) -/
theorem b_70_3 {X : Nat × (Nat → Int32)} {d : Nat} {p : Nat → Nat} {sg : Mg} {Q : am_R → Prop} {n : Nat} (u_n : n ≤ 400) (kn_1_2 : sg 1 2 = nI n) {x : Int32} {k : Nat} {z2 : Option AV} {z3 : Option AV} (u_k : k ≤ 400) (hx : k < n → sg 2 k = x)
    (o1 : (n ≤ k) → gW X (d) k_70 15 [some (vR 1), some (vI (nI k)), z2, z3] [] p sg Q)
    (o2 : (¬ (n ≤ k)) → (¬ x = 32) → gW X (d) k_70 15 [some (vR 1), some (vI (nI k)), z2, z3] [] p sg Q)
    (o3 : (¬ (n ≤ k)) → (x = 32) → gW X (d) k_70 3 [some (vR 1), some (vI (nI (k + 1))), z2, z3] [] p sg Q) :
    gW X (d) k_70 3 [some (vR 1), some (vI (nI k)), z2, z3] [] p sg Q := by
  refine g_pure 2 (i' := 5) (lv' := [some (vR 1), some (vI (nI k)), z2, z3]) (st' := [vR 1, vI (nI k)]) rfl ?_
  refine g_getI rfl (g_A (a := 1) (kd := 0) (n := 8) rfl (by decide)) (show _ = nI n from kn_1_2) ?_
  refine g_if2 (i' := 15) (P := n ≤ k) rfl rfl (g_geN (show nI k = nI k from (rfl : nI k = nI k)) (show nI n = nI n from (rfl : nI n = nI n)) (by omega) (by omega)) (fun h1 => ?_) (fun h1 => ?_)
  · exact o1 h1
  · refine g_pure 3 (i' := 10) (lv' := [some (vR 1), some (vI (nI k)), z2, z3]) (st' := [vI (nI k), vR 2]) rfl ?_
    refine g_bald rfl (by decide) (g_A (a := 2) (kd := 2) (n := 400) rfl (by decide)) (by decide) (show nI k = nI k from (rfl : nI k = nI k)) (by omega) (show _ = x from (hx (by omega))) ?_
    refine g_pure 1 (i' := 12) (lv' := [some (vR 1), some (vI (nI k)), z2, z3]) (st' := [vI 32, vI x]) rfl ?_
    refine g_if2 (i' := 15) (P := ¬ x = 32) rfl rfl Iff.rfl (fun h2 => ?_) (fun h2 => ?_)
    · exact o2 h1 h2
    · have h2 := Classical.not_not.mp h2
      refine g_pure 2 (i' := 3) (lv' := [some (vR 1), some (vI (nI k + 1)), z2, z3]) (st' := []) rfl ?_
      refine gW_eq (lv' := [some (vR 1), some (vI (nI (k + 1))), z2, z3]) (st' := []) (by rw [(show (nI k + 1) = nI (k + 1) from ((g_add (rfl : nI k = nI k) (show (1 : Int32) = nI 1 from rfl))).trans (congrArg nI (by omega)))]) rfl rfl ?_
      exact o3 h1 h2

theorem b_70_15 {X : Nat × (Nat → Int32)} {d : Nat} {p : Nat → Nat} {sg : Mg} {Q : am_R → Prop} {n : Nat} (u_n : n ≤ 400) (kn_1_2 : sg 1 2 = nI n) {k : Nat} {z2 : Option AV} {z3 : Option AV} (u_k : k ≤ 400)
    (o1 : ∀ s1 : Mg, s1 = mu sg 1 3 (nI k) → (n ≤ k) → gW X (d) k_70 80 [some (vR 1), some (vI (nI k)), z2, z3] [] p s1 Q)
    (o2 : ∀ s1 : Mg, s1 = mu sg 1 3 (nI k) → (¬ (n ≤ k)) → (s1 2 k < 97) → (s1 2 k < 48) → gW X (d) k_70 59 [some (vR 1), some (vI (nI k)), some (vI 0), some (vI 0)] [] p s1 Q)
    (o3 : ∀ s1 : Mg, s1 = mu sg 1 3 (nI k) → (¬ (n ≤ k)) → (s1 2 k < 97) → (¬ (s1 2 k < 48)) → (57 < s1 2 k) → gW X (d) k_70 59 [some (vR 1), some (vI (nI k)), some (vI 0), some (vI 0)] [] p s1 Q)
    (o4 : ∀ s1 : Mg, s1 = mu sg 1 3 (nI k) → (¬ (n ≤ k)) → (s1 2 k < 97) → (¬ (s1 2 k < 48)) → (¬ (57 < s1 2 k)) → gW X (d) k_70 59 [some (vR 1), some (vI (nI k)), some (vI 48), some (vI 57)] [] p s1 Q)
    (o5 : ∀ s1 : Mg, s1 = mu sg 1 3 (nI k) → (¬ (n ≤ k)) → (¬ (s1 2 k < 97)) → (122 < s1 2 k) → (s1 2 k < 48) → gW X (d) k_70 59 [some (vR 1), some (vI (nI k)), some (vI 0), some (vI 0)] [] p s1 Q)
    (o6 : ∀ s1 : Mg, s1 = mu sg 1 3 (nI k) → (¬ (n ≤ k)) → (¬ (s1 2 k < 97)) → (122 < s1 2 k) → (¬ (s1 2 k < 48)) → (57 < s1 2 k) → gW X (d) k_70 59 [some (vR 1), some (vI (nI k)), some (vI 0), some (vI 0)] [] p s1 Q)
    (o7 : ∀ s1 : Mg, s1 = mu sg 1 3 (nI k) → (¬ (n ≤ k)) → (¬ (s1 2 k < 97)) → (122 < s1 2 k) → (¬ (s1 2 k < 48)) → (¬ (57 < s1 2 k)) → gW X (d) k_70 59 [some (vR 1), some (vI (nI k)), some (vI 48), some (vI 57)] [] p s1 Q)
    (o8 : ∀ s1 : Mg, s1 = mu sg 1 3 (nI k) → (¬ (n ≤ k)) → (¬ (s1 2 k < 97)) → (¬ (122 < s1 2 k)) → gW X (d) k_70 59 [some (vR 1), some (vI (nI k)), some (vI 97), some (vI 122)] [] p s1 Q) :
    gW X (d) k_70 15 [some (vR 1), some (vI (nI k)), z2, z3] [] p sg Q := by
  refine g_pure 2 (i' := 17) (lv' := [some (vR 1), some (vI (nI k)), z2, z3]) (st' := [vI (nI k), vR 1]) rfl ?_
  refine g_putI rfl (g_A (a := 1) (kd := 0) (n := 8) rfl (by decide)) ?_
  refine g_setv (fun s1 es1 => ?_)
  have kns1_1_2 : s1 1 2 = nI n := by rw [es1, mu_idx (by decide)]; exact kn_1_2
  refine g_pure 2 (i' := 20) (lv' := [some (vR 1), some (vI (nI k)), z2, z3]) (st' := [vR 1, vI (nI k)]) rfl ?_
  refine g_getI rfl (g_A (a := 1) (kd := 0) (n := 8) rfl (by decide)) (show _ = nI n from kns1_1_2) ?_
  refine g_if2 (i' := 80) (P := n ≤ k) rfl rfl (g_geN (show nI k = nI k from (rfl : nI k = nI k)) (show nI n = nI n from (rfl : nI n = nI n)) (by omega) (by omega)) (fun h2 => ?_) (fun h2 => ?_)
  · exact o1 s1 es1 h2
  · refine g_pure 7 (i' := 29) (lv' := [some (vR 1), some (vI (nI k)), some (vI 0), some (vI 0)]) (st' := [vI (nI k), vR 2]) rfl ?_
    refine g_bald rfl (by decide) (g_A (a := 2) (kd := 2) (n := 400) rfl (by decide)) (by decide) (show nI k = nI k from (rfl : nI k = nI k)) (by omega) (show _ = s1 2 k from rfl) ?_
    refine g_pure 1 (i' := 31) (lv' := [some (vR 1), some (vI (nI k)), some (vI 0), some (vI 0)]) (st' := [vI 97, vI (s1 2 k)]) rfl ?_
    refine g_if2 (i' := 43) (P := s1 2 k < 97) rfl rfl Iff.rfl (fun h3 => ?_) (fun h3 => ?_)
    · refine g_pure 3 (i' := 46) (lv' := [some (vR 1), some (vI (nI k)), some (vI 0), some (vI 0)]) (st' := [vI (nI k), vR 2]) rfl ?_
      refine g_bald rfl (by decide) (g_A (a := 2) (kd := 2) (n := 400) rfl (by decide)) (by decide) (show nI k = nI k from (rfl : nI k = nI k)) (by omega) (show _ = s1 2 k from rfl) ?_
      refine g_pure 1 (i' := 48) (lv' := [some (vR 1), some (vI (nI k)), some (vI 0), some (vI 0)]) (st' := [vI 48, vI (s1 2 k)]) rfl ?_
      refine g_if2 (i' := 59) (P := s1 2 k < 48) rfl rfl Iff.rfl (fun h4 => ?_) (fun h4 => ?_)
      · exact o2 s1 es1 h2 h3 h4
      · refine g_pure 3 (i' := 52) (lv' := [some (vR 1), some (vI (nI k)), some (vI 0), some (vI 0)]) (st' := [vI (nI k), vR 2]) rfl ?_
        refine g_bald rfl (by decide) (g_A (a := 2) (kd := 2) (n := 400) rfl (by decide)) (by decide) (show nI k = nI k from (rfl : nI k = nI k)) (by omega) (show _ = s1 2 k from rfl) ?_
        refine g_pure 1 (i' := 54) (lv' := [some (vR 1), some (vI (nI k)), some (vI 0), some (vI 0)]) (st' := [vI 57, vI (s1 2 k)]) rfl ?_
        refine g_if2 (i' := 59) (P := 57 < s1 2 k) rfl rfl Iff.rfl (fun h5 => ?_) (fun h5 => ?_)
        · exact o3 s1 es1 h2 h3 h4 h5
        · refine g_pure 4 (i' := 59) (lv' := [some (vR 1), some (vI (nI k)), some (vI 48), some (vI 57)]) (st' := []) rfl ?_
          exact o4 s1 es1 h2 h3 h4 h5
    · refine g_pure 3 (i' := 35) (lv' := [some (vR 1), some (vI (nI k)), some (vI 0), some (vI 0)]) (st' := [vI (nI k), vR 2]) rfl ?_
      refine g_bald rfl (by decide) (g_A (a := 2) (kd := 2) (n := 400) rfl (by decide)) (by decide) (show nI k = nI k from (rfl : nI k = nI k)) (by omega) (show _ = s1 2 k from rfl) ?_
      refine g_pure 1 (i' := 37) (lv' := [some (vR 1), some (vI (nI k)), some (vI 0), some (vI 0)]) (st' := [vI 122, vI (s1 2 k)]) rfl ?_
      refine g_if2 (i' := 43) (P := 122 < s1 2 k) rfl rfl Iff.rfl (fun h6 => ?_) (fun h6 => ?_)
      · refine g_pure 3 (i' := 46) (lv' := [some (vR 1), some (vI (nI k)), some (vI 0), some (vI 0)]) (st' := [vI (nI k), vR 2]) rfl ?_
        refine g_bald rfl (by decide) (g_A (a := 2) (kd := 2) (n := 400) rfl (by decide)) (by decide) (show nI k = nI k from (rfl : nI k = nI k)) (by omega) (show _ = s1 2 k from rfl) ?_
        refine g_pure 1 (i' := 48) (lv' := [some (vR 1), some (vI (nI k)), some (vI 0), some (vI 0)]) (st' := [vI 48, vI (s1 2 k)]) rfl ?_
        refine g_if2 (i' := 59) (P := s1 2 k < 48) rfl rfl Iff.rfl (fun h7 => ?_) (fun h7 => ?_)
        · exact o5 s1 es1 h2 h3 h6 h7
        · refine g_pure 3 (i' := 52) (lv' := [some (vR 1), some (vI (nI k)), some (vI 0), some (vI 0)]) (st' := [vI (nI k), vR 2]) rfl ?_
          refine g_bald rfl (by decide) (g_A (a := 2) (kd := 2) (n := 400) rfl (by decide)) (by decide) (show nI k = nI k from (rfl : nI k = nI k)) (by omega) (show _ = s1 2 k from rfl) ?_
          refine g_pure 1 (i' := 54) (lv' := [some (vR 1), some (vI (nI k)), some (vI 0), some (vI 0)]) (st' := [vI 57, vI (s1 2 k)]) rfl ?_
          refine g_if2 (i' := 59) (P := 57 < s1 2 k) rfl rfl Iff.rfl (fun h8 => ?_) (fun h8 => ?_)
          · exact o6 s1 es1 h2 h3 h6 h7 h8
          · refine g_pure 4 (i' := 59) (lv' := [some (vR 1), some (vI (nI k)), some (vI 48), some (vI 57)]) (st' := []) rfl ?_
            exact o7 s1 es1 h2 h3 h6 h7 h8
      · refine g_pure 5 (i' := 59) (lv' := [some (vR 1), some (vI (nI k)), some (vI 97), some (vI 122)]) (st' := []) rfl ?_
        exact o8 s1 es1 h2 h3 h6

theorem b_70_60 {X : Nat × (Nat → Int32)} {d : Nat} {p : Nat → Nat} {sg : Mg} {Q : am_R → Prop} {n : Nat} (u_n : n ≤ 400) (kn_1_2 : sg 1 2 = nI n) {x : Int32} {k : Nat} {lo : Nat} {hi : Nat} (u_k : k ≤ 400) (u_lo : lo ≤ 122) (u_hi : hi ≤ 122) (hx : k < n → sg 2 k = x)
    (o1 : (n ≤ k) → gW X (d) k_70 80 [some (vR 1), some (vI (nI k)), some (vI (nI lo)), some (vI (nI hi))] [] p sg Q)
    (o2 : (¬ (n ≤ k)) → (hi ≤ 0) → gW X (d) k_70 80 [some (vR 1), some (vI (nI k)), some (vI (nI lo)), some (vI (nI hi))] [] p sg Q)
    (o3 : (¬ (n ≤ k)) → (¬ (hi ≤ 0)) → (x < nI lo) → gW X (d) k_70 80 [some (vR 1), some (vI (nI k)), some (vI (nI lo)), some (vI (nI hi))] [] p sg Q)
    (o4 : (¬ (n ≤ k)) → (¬ (hi ≤ 0)) → (¬ (x < nI lo)) → (nI hi < x) → gW X (d) k_70 80 [some (vR 1), some (vI (nI k)), some (vI (nI lo)), some (vI (nI hi))] [] p sg Q)
    (o5 : (¬ (n ≤ k)) → (¬ (hi ≤ 0)) → (¬ (x < nI lo)) → (¬ (nI hi < x)) → gW X (d) k_70 60 [some (vR 1), some (vI (nI (k + 1))), some (vI (nI lo)), some (vI (nI hi))] [] p sg Q) :
    gW X (d) k_70 60 [some (vR 1), some (vI (nI k)), some (vI (nI lo)), some (vI (nI hi))] [] p sg Q := by
  refine g_pure 2 (i' := 62) (lv' := [some (vR 1), some (vI (nI k)), some (vI (nI lo)), some (vI (nI hi))]) (st' := [vR 1, vI (nI k)]) rfl ?_
  refine g_getI rfl (g_A (a := 1) (kd := 0) (n := 8) rfl (by decide)) (show _ = nI n from kn_1_2) ?_
  refine g_if2 (i' := 80) (P := n ≤ k) rfl rfl (g_geN (show nI k = nI k from (rfl : nI k = nI k)) (show nI n = nI n from (rfl : nI n = nI n)) (by omega) (by omega)) (fun h1 => ?_) (fun h1 => ?_)
  · exact o1 h1
  · refine g_pure 1 (i' := 65) (lv' := [some (vR 1), some (vI (nI k)), some (vI (nI lo)), some (vI (nI hi))]) (st' := [vI (nI hi)]) rfl ?_
    refine g_if1 (i' := 80) (P := hi ≤ 0) rfl rfl (g_leN (show nI hi = nI hi from (rfl : nI hi = nI hi)) (show 0 = nI 0 from (show (0 : Int32) = nI 0 from rfl)) (by omega) (by omega)) (fun h2 => ?_) (fun h2 => ?_)
    · exact o2 h1 h2
    · refine g_pure 3 (i' := 69) (lv' := [some (vR 1), some (vI (nI k)), some (vI (nI lo)), some (vI (nI hi))]) (st' := [vI (nI k), vR 2]) rfl ?_
      refine g_bald rfl (by decide) (g_A (a := 2) (kd := 2) (n := 400) rfl (by decide)) (by decide) (show nI k = nI k from (rfl : nI k = nI k)) (by omega) (show _ = x from (hx (by omega))) ?_
      refine g_pure 1 (i' := 71) (lv' := [some (vR 1), some (vI (nI k)), some (vI (nI lo)), some (vI (nI hi))]) (st' := [vI (nI lo), vI x]) rfl ?_
      refine g_if2 (i' := 80) (P := x < nI lo) rfl rfl Iff.rfl (fun h3 => ?_) (fun h3 => ?_)
      · exact o3 h1 h2 h3
      · refine g_pure 3 (i' := 75) (lv' := [some (vR 1), some (vI (nI k)), some (vI (nI lo)), some (vI (nI hi))]) (st' := [vI (nI k), vR 2]) rfl ?_
        refine g_bald rfl (by decide) (g_A (a := 2) (kd := 2) (n := 400) rfl (by decide)) (by decide) (show nI k = nI k from (rfl : nI k = nI k)) (by omega) (show _ = x from (hx (by omega))) ?_
        refine g_pure 1 (i' := 77) (lv' := [some (vR 1), some (vI (nI k)), some (vI (nI lo)), some (vI (nI hi))]) (st' := [vI (nI hi), vI x]) rfl ?_
        refine g_if2 (i' := 80) (P := nI hi < x) rfl rfl Iff.rfl (fun h4 => ?_) (fun h4 => ?_)
        · exact o4 h1 h2 h3 h4
        · refine g_pure 2 (i' := 60) (lv' := [some (vR 1), some (vI (nI k + 1)), some (vI (nI lo)), some (vI (nI hi))]) (st' := []) rfl ?_
          refine gW_eq (lv' := [some (vR 1), some (vI (nI (k + 1))), some (vI (nI lo)), some (vI (nI hi))]) (st' := []) (by rw [(show (nI k + 1) = nI (k + 1) from ((g_add (rfl : nI k = nI k) (show (1 : Int32) = nI 1 from rfl))).trans (congrArg nI (by omega)))]) rfl rfl ?_
          exact o5 h1 h2 h3 h4

theorem b_72_0 {X : Nat × (Nat → Int32)} {d : Nat} {p : Nat → Nat} {sg : Mg} {Q : am_R → Prop} {n : Nat} (u_n : n ≤ 400) (kn_1_2 : sg 1 2 = nI n) {b : Nat} (u_b : b ≤ 400) (kn_1_3 : sg 1 3 = nI b) {e : Nat} (u_e : e ≤ 400) (kn_1_4 : sg 1 4 = nI e)
    (o1 : (b < n) → Q (gRv p sg 0))
    (o2 : (¬ (b < n)) → Q (gRv p sg 1)) :
    gW X (d) k_72 0 [some (vR 1)] [] p sg Q := by
  refine g_pure 1 (i' := 1) (lv' := [some (vR 1)]) (st' := [vR 1]) rfl ?_
  refine g_getI rfl (g_A (a := 1) (kd := 0) (n := 8) rfl (by decide)) (show _ = nI b from kn_1_3) ?_
  refine g_pure 1 (i' := 3) (lv' := [some (vR 1)]) (st' := [vR 1, vI (nI b)]) rfl ?_
  refine g_getI rfl (g_A (a := 1) (kd := 0) (n := 8) rfl (by decide)) (show _ = nI n from kn_1_2) ?_
  refine g_if2 (i' := 7) (P := b < n) rfl rfl (g_ltN (show nI b = nI b from (rfl : nI b = nI b)) (show nI n = nI n from (rfl : nI n = nI n)) (by omega) (by omega)) (fun h1 => ?_) (fun h1 => ?_)
  · refine g_pure 1 (i' := 8) (lv' := [some (vR 1)]) (st' := [vI 0]) rfl ?_
    refine g_bret rfl g_nar0 ?_
    exact o1 h1
  · refine g_pure 2 (i' := 8) (lv' := [some (vR 1)]) (st' := [vI 1]) rfl ?_
    refine g_bret rfl g_nar1 ?_
    exact o2 h1

theorem b_78_0 {X : Nat × (Nat → Int32)} {d : Nat} {p : Nat → Nat} {sg : Mg} {Q : am_R → Prop} {n : Nat} (u_n : n ≤ 400) (kn_1_2 : sg 1 2 = nI n) {b : Nat} (u_b : b ≤ 400) (kn_1_3 : sg 1 3 = nI b) {e : Nat} (u_e : e ≤ 400) (kn_1_4 : sg 1 4 = nI e) {x : Int32} (hx : b < n → sg 2 b = x)
    (o1 : (n ≤ b) → Q (gRv p sg 0))
    (o2 : (¬ (n ≤ b)) → (x < 48) → Q (gRv p sg 0))
    (o3 : (¬ (n ≤ b)) → (¬ (x < 48)) → (57 < x) → Q (gRv p sg 0))
    (o4 : (¬ (n ≤ b)) → (¬ (x < 48)) → (¬ (57 < x)) → Q (gRv p sg 1)) :
    gW X (d) k_78 0 [some (vR 1)] [] p sg Q := by
  refine g_pure 1 (i' := 1) (lv' := [some (vR 1)]) (st' := [vR 1]) rfl ?_
  refine g_getI rfl (g_A (a := 1) (kd := 0) (n := 8) rfl (by decide)) (show _ = nI b from kn_1_3) ?_
  refine g_pure 1 (i' := 3) (lv' := [some (vR 1)]) (st' := [vR 1, vI (nI b)]) rfl ?_
  refine g_getI rfl (g_A (a := 1) (kd := 0) (n := 8) rfl (by decide)) (show _ = nI n from kn_1_2) ?_
  refine g_if2 (i' := 21) (P := n ≤ b) rfl rfl (g_geN (show nI b = nI b from (rfl : nI b = nI b)) (show nI n = nI n from (rfl : nI n = nI n)) (by omega) (by omega)) (fun h1 => ?_) (fun h1 => ?_)
  · refine g_pure 1 (i' := 22) (lv' := [some (vR 1)]) (st' := [vI 0]) rfl ?_
    refine g_bret rfl g_nar0 ?_
    exact o1 h1
  · refine g_pure 3 (i' := 8) (lv' := [some (vR 1)]) (st' := [vR 1, vR 2]) rfl ?_
    refine g_getI rfl (g_A (a := 1) (kd := 0) (n := 8) rfl (by decide)) (show _ = nI b from kn_1_3) ?_
    refine g_bald rfl (by decide) (g_A (a := 2) (kd := 2) (n := 400) rfl (by decide)) (by decide) (show nI b = nI b from (rfl : nI b = nI b)) (by omega) (show _ = x from (hx (by omega))) ?_
    refine g_pure 1 (i' := 11) (lv' := [some (vR 1)]) (st' := [vI 48, vI x]) rfl ?_
    refine g_if2 (i' := 21) (P := x < 48) rfl rfl Iff.rfl (fun h2 => ?_) (fun h2 => ?_)
    · refine g_pure 1 (i' := 22) (lv' := [some (vR 1)]) (st' := [vI 0]) rfl ?_
      refine g_bret rfl g_nar0 ?_
      exact o2 h1 h2
    · refine g_pure 3 (i' := 15) (lv' := [some (vR 1)]) (st' := [vR 1, vR 2]) rfl ?_
      refine g_getI rfl (g_A (a := 1) (kd := 0) (n := 8) rfl (by decide)) (show _ = nI b from kn_1_3) ?_
      refine g_bald rfl (by decide) (g_A (a := 2) (kd := 2) (n := 400) rfl (by decide)) (by decide) (show nI b = nI b from (rfl : nI b = nI b)) (by omega) (show _ = x from (hx (by omega))) ?_
      refine g_pure 1 (i' := 18) (lv' := [some (vR 1)]) (st' := [vI 57, vI x]) rfl ?_
      refine g_if2 (i' := 21) (P := 57 < x) rfl rfl Iff.rfl (fun h3 => ?_) (fun h3 => ?_)
      · refine g_pure 1 (i' := 22) (lv' := [some (vR 1)]) (st' := [vI 0]) rfl ?_
        refine g_bret rfl g_nar0 ?_
        exact o3 h1 h2 h3
      · refine g_pure 2 (i' := 22) (lv' := [some (vR 1)]) (st' := [vI 1]) rfl ?_
        refine g_bret rfl g_nar1 ?_
        exact o4 h1 h2 h3

theorem b_79_0 {X : Nat × (Nat → Int32)} {d : Nat} {p : Nat → Nat} {sg : Mg} {Q : am_R → Prop} {n : Nat} (u_n : n ≤ 400) (kn_1_2 : sg 1 2 = nI n) {b : Nat} (u_b : b ≤ 400) (kn_1_3 : sg 1 3 = nI b) {e : Nat} (u_e : e ≤ 400) (kn_1_4 : sg 1 4 = nI e) {x : Int32} {c : Int32} (hx : b < n → sg 2 b = x)
    (o1 : (n ≤ b) → Q (gRv p sg 0))
    (o2 : (¬ (n ≤ b)) → (¬ x = c) → Q (gRv p sg 0))
    (o3 : (¬ (n ≤ b)) → (x = c) → Q (gRv p sg 1)) :
    gW X (d) k_79 0 [some (vR 1), some (vI c)] [] p sg Q := by
  refine g_pure 1 (i' := 1) (lv' := [some (vR 1), some (vI c)]) (st' := [vR 1]) rfl ?_
  refine g_getI rfl (g_A (a := 1) (kd := 0) (n := 8) rfl (by decide)) (show _ = nI b from kn_1_3) ?_
  refine g_pure 1 (i' := 3) (lv' := [some (vR 1), some (vI c)]) (st' := [vR 1, vI (nI b)]) rfl ?_
  refine g_getI rfl (g_A (a := 1) (kd := 0) (n := 8) rfl (by decide)) (show _ = nI n from kn_1_2) ?_
  refine g_if2 (i' := 14) (P := n ≤ b) rfl rfl (g_geN (show nI b = nI b from (rfl : nI b = nI b)) (show nI n = nI n from (rfl : nI n = nI n)) (by omega) (by omega)) (fun h1 => ?_) (fun h1 => ?_)
  · refine g_pure 1 (i' := 15) (lv' := [some (vR 1), some (vI c)]) (st' := [vI 0]) rfl ?_
    refine g_bret rfl g_nar0 ?_
    exact o1 h1
  · refine g_pure 3 (i' := 8) (lv' := [some (vR 1), some (vI c)]) (st' := [vR 1, vR 2]) rfl ?_
    refine g_getI rfl (g_A (a := 1) (kd := 0) (n := 8) rfl (by decide)) (show _ = nI b from kn_1_3) ?_
    refine g_bald rfl (by decide) (g_A (a := 2) (kd := 2) (n := 400) rfl (by decide)) (by decide) (show nI b = nI b from (rfl : nI b = nI b)) (by omega) (show _ = x from (hx (by omega))) ?_
    refine g_pure 1 (i' := 11) (lv' := [some (vR 1), some (vI c)]) (st' := [vI c, vI x]) rfl ?_
    refine g_if2 (i' := 14) (P := ¬ x = c) rfl rfl Iff.rfl (fun h2 => ?_) (fun h2 => ?_)
    · refine g_pure 1 (i' := 15) (lv' := [some (vR 1), some (vI c)]) (st' := [vI 0]) rfl ?_
      refine g_bret rfl g_nar0 ?_
      exact o2 h1 h2
    · have h2 := Classical.not_not.mp h2
      refine g_pure 2 (i' := 15) (lv' := [some (vR 1), some (vI c)]) (st' := [vI 1]) rfl ?_
      refine g_bret rfl g_nar1 ?_
      exact o3 h1 h2

theorem b_74_0 {X : Nat × (Nat → Int32)} {d : Nat} {p : Nat → Nat} {sg : Mg} {Q : am_R → Prop} {n : Nat} (u_n : n ≤ 400) (kn_1_2 : sg 1 2 = nI n) {b : Nat} (u_b : b ≤ 400) (kn_1_3 : sg 1 3 = nI b) {e : Nat} (u_e : e ≤ 400) (kn_1_4 : sg 1 4 = nI e) {j : Nat} (h_j : j < 77) (hbe : b ≤ e) (hlen : (am_SL j).length ≤ 40)
    (o1 : ((e - b) = (am_SL j).length) → gW X (d) k_74 12 [some (vR 1), some (vS j), some (vI 0)] [] p sg Q)
    (o2 : (¬ ((e - b) = (am_SL j).length)) → Q (gRv p sg 0)) :
    gW X (d) k_74 0 [some (vR 1), some (vS j), none] [] p sg Q := by
  refine g_pure 1 (i' := 1) (lv' := [some (vR 1), some (vS j), none]) (st' := [vR 1]) rfl ?_
  refine g_getI rfl (g_A (a := 1) (kd := 0) (n := 8) rfl (by decide)) (show _ = nI e from kn_1_4) ?_
  refine g_pure 1 (i' := 3) (lv' := [some (vR 1), some (vS j), none]) (st' := [vR 1, vI (nI e)]) rfl ?_
  refine g_getI rfl (g_A (a := 1) (kd := 0) (n := 8) rfl (by decide)) (show _ = nI b from kn_1_3) ?_
  refine g_pure 2 (i' := 6) (lv' := [some (vR 1), some (vS j), none]) (st' := [vS j, vI (nI e - nI b)]) rfl ?_
  refine gW_eq (lv' := [some (vR 1), some (vS j), none]) (st' := [vS j, vI (nI (e - b))]) rfl (by rw [(show (nI e - nI b) = nI (e - b) from (g_sub (rfl : nI e = nI e) (rfl : nI b = nI b) (by omega)))]) rfl ?_
  refine g_slen' rfl h_j rfl ?_
  refine gW_eq (lv' := [some (vR 1), some (vS j), none]) (st' := [vI (nI ((am_SL j).length)), vI (nI (e - b))]) rfl (by rw [(show nI (am_SL j).length = nI ((am_SL j).length) from (rfl : nI ((am_SL j).length) = nI ((am_SL j).length)))]) rfl ?_
  refine g_if2 (i' := 10) (P := (e - b) = (am_SL j).length) rfl rfl (g_eqN (show nI (e - b) = nI (e - b) from (rfl : nI (e - b) = nI (e - b))) (show nI ((am_SL j).length) = nI ((am_SL j).length) from (rfl : nI ((am_SL j).length) = nI ((am_SL j).length))) (by omega) (by omega)) (fun h1 => ?_) (fun h1 => ?_)
  · refine g_pure 2 (i' := 12) (lv' := [some (vR 1), some (vS j), some (vI 0)]) (st' := []) rfl ?_
    exact o1 h1
  · refine g_pure 1 (i' := 9) (lv' := [some (vR 1), some (vS j), none]) (st' := [vI 0]) rfl ?_
    refine g_bret rfl g_nar0 ?_
    exact o2 h1

theorem b_74_12 {X : Nat × (Nat → Int32)} {d : Nat} {p : Nat → Nat} {sg : Mg} {Q : am_R → Prop} {n : Nat} (u_n : n ≤ 400) (kn_1_2 : sg 1 2 = nI n) {b : Nat} (u_b : b ≤ 400) (kn_1_3 : sg 1 3 = nI b) {e : Nat} (u_e : e ≤ 400) (kn_1_4 : sg 1 4 = nI e) {j : Nat} (h_j : j < 77) {i : Nat} (u_i : i ≤ 400) (hbe : b + (am_SL j).length ≤ 400)
    (o1 : ((am_SL j).length ≤ i) → Q (gRv p sg 1))
    (o2 : (¬ ((am_SL j).length ≤ i)) → (sg 2 (b + i) = ((am_SL j).getD i 0)) → gW X (d) k_74 12 [some (vR 1), some (vS j), some (vI (nI (i + 1)))] [] p sg Q)
    (o3 : (¬ ((am_SL j).length ≤ i)) → (¬ (sg 2 (b + i) = ((am_SL j).getD i 0))) → Q (gRv p sg 0)) :
    gW X (d) k_74 12 [some (vR 1), some (vS j), some (vI (nI i))] [] p sg Q := by
  refine g_pure 2 (i' := 14) (lv' := [some (vR 1), some (vS j), some (vI (nI i))]) (st' := [vS j, vI (nI i)]) rfl ?_
  refine g_slen' rfl h_j rfl ?_
  refine gW_eq (lv' := [some (vR 1), some (vS j), some (vI (nI i))]) (st' := [vI (nI ((am_SL j).length)), vI (nI i)]) rfl (by rw [(show nI (am_SL j).length = nI ((am_SL j).length) from (rfl : nI ((am_SL j).length) = nI ((am_SL j).length)))]) rfl ?_
  refine g_if2 (i' := 31) (P := (am_SL j).length ≤ i) rfl rfl (g_geN (show nI i = nI i from (rfl : nI i = nI i)) (show nI ((am_SL j).length) = nI ((am_SL j).length) from (rfl : nI ((am_SL j).length) = nI ((am_SL j).length))) (by omega) (by omega)) (fun h1 => ?_) (fun h1 => ?_)
  · refine g_pure 1 (i' := 32) (lv' := [some (vR 1), some (vS j), some (vI (nI i))]) (st' := [vI 1]) rfl ?_
    refine g_bret rfl g_nar1 ?_
    exact o1 h1
  · refine g_pure 3 (i' := 19) (lv' := [some (vR 1), some (vS j), some (vI (nI i))]) (st' := [vR 1, vR 2]) rfl ?_
    refine g_getI rfl (g_A (a := 1) (kd := 0) (n := 8) rfl (by decide)) (show _ = nI b from kn_1_3) ?_
    refine g_pure 2 (i' := 22) (lv' := [some (vR 1), some (vS j), some (vI (nI i))]) (st' := [vI (nI b + nI i), vR 2]) rfl ?_
    refine gW_eq (lv' := [some (vR 1), some (vS j), some (vI (nI i))]) (st' := [vI (nI (b + i)), vR 2]) rfl (by rw [(show (nI b + nI i) = nI (b + i) from ((g_add (rfl : nI b = nI b) (rfl : nI i = nI i))).trans (congrArg nI (by omega)))]) rfl ?_
    refine g_bald rfl (by decide) (g_A (a := 2) (kd := 2) (n := 400) rfl (by decide)) (by decide) (show nI (b + i) = nI (b + i) from (rfl : nI (b + i) = nI (b + i))) (by omega) (show _ = sg 2 (b + i) from rfl) ?_
    refine g_pure 2 (i' := 25) (lv' := [some (vR 1), some (vS j), some (vI (nI i))]) (st' := [vI (nI i), vS j, vI (sg 2 (b + i))]) rfl ?_
    refine g_schr' rfl h_j rfl (by omega) (show nI i = nI i from (rfl : nI i = nI i)) (by omega) ?_
    refine g_if2 (i' := 29) (P := sg 2 (b + i) = ((am_SL j).getD i 0)) rfl rfl Iff.rfl (fun h2 => ?_) (fun h2 => ?_)
    · refine g_pure 2 (i' := 12) (lv' := [some (vR 1), some (vS j), some (vI (nI i + 1))]) (st' := []) rfl ?_
      refine gW_eq (lv' := [some (vR 1), some (vS j), some (vI (nI (i + 1)))]) (st' := []) (by rw [(show (nI i + 1) = nI (i + 1) from ((g_add (rfl : nI i = nI i) (show (1 : Int32) = nI 1 from rfl))).trans (congrArg nI (by omega)))]) rfl rfl ?_
      exact o2 h1 h2
    · refine g_pure 1 (i' := 28) (lv' := [some (vR 1), some (vS j), some (vI (nI i))]) (st' := [vI 0]) rfl ?_
      refine g_bret rfl g_nar0 ?_
      exact o3 h1 h2

section
variable (T : Nat → Int32) (n : Nat)
def isL (x : Int32) : Bool := !decide (x < 97) && !decide (122 < x)
def isD (x : Int32) : Bool := !decide (x < 48) && !decide (57 < x)
/-- where the next thing begins, where it ends, what is behind it -/
def spK (k : Nat) : Nat := fnd (fun i => !decide (T i = 32)) (n - k) k
def enK (b : Nat) : Nat := if b < n then (if isL (T b) = true then fnd (fun i => !isL (T i)) (n - (b + 1)) (b + 1) else if isD (T b) = true then fnd (fun i => !isD (T i)) (n - (b + 1)) (b + 1) else b + 1) else b
def nxK (k : Nat) : Nat := enK T n (spK T n k)
/-- a word stands there -/
def isW (k : Nat) (w : List Int32) : Prop := nxK T n k - spK T n k = w.length ∧ ∀ i, i < w.length → T (spK T n k + i) = w.getD i 0
def isG (k : Nat) (c : Int32) : Prop := spK T n k < n ∧ T (spK T n k) = c
def isU (k : Nat) : Prop := spK T n k < n ∧ isD (T (spK T n k)) = true
def valK (b : Nat) : Nat → Nat
  | 0 => 0
  | i + 1 => valK b i * 10 + ((T (b + i)).toNatClampNeg - 48)
def numK (k : Nat) : Nat := valK T (spK T n k) (nxK T n k - spK T n k)
/-- a number stands there, of so many digits, from lo on and below m -/
def tkP (k dg lo m : Nat) : Prop := isU T n k ∧ nxK T n k - spK T n k ≤ dg ∧ lo ≤ numK T n k ∧ numK T n k < m
end
noncomputable def dcN (P : Prop) : Bool := @decide P (Classical.propDecidable P)
theorem dcN_t {P : Prop} (h : P) : dcN P = true := @decide_eq_true P (Classical.propDecidable P) h
theorem dcN_f {P : Prop} (h : ¬ P) : dcN P = false := @decide_eq_false P (Classical.propDecidable P) h
theorem dcN_i {P : Prop} : dcN P = true ↔ P := ⟨fun h => Classical.byContradiction (fun g => by rw [dcN_f g] at h; cases h), dcN_t⟩
theorem dcN_n {P : Prop} : ¬ dcN P = true ↔ ¬ P := not_congr dcN_i
section
variable {T : Nat → Int32} {n : Nat}
theorem spK_ok {k : Nat} (hk : k ≤ n) : k ≤ spK T n k ∧ spK T n k ≤ n ∧ (∀ j, k ≤ j → j < spK T n k → T j = 32) ∧ (spK T n k < n → ¬ T (spK T n k) = 32) := by
  obtain ⟨h1, h2, h3, h4⟩ := fnd_spec (fun i => !decide (T i = 32)) (n - k) k
  have h1 : k ≤ spK T n k := h1
  have h2 : spK T n k ≤ k + (n - k) := h2
  have h4 : spK T n k < k + (n - k) → (!decide (T (spK T n k) = 32)) = true := h4
  have h3 : ∀ j, k ≤ j → j < spK T n k → (!decide (T j = 32)) = false := h3
  exact ⟨h1, by omega, fun j a b => by simpa using h3 j a b, fun h => by simpa using h4 (by omega)⟩
theorem enK_ok {b : Nat} (hb : b ≤ n) : b ≤ enK T n b ∧ enK T n b ≤ n ∧ (b < n → b < enK T n b) := by
  unfold enK
  split
  · rename_i h
    split
    · obtain ⟨h1, h2, -⟩ := fnd_spec (fun i => !isL (T i)) (n - (b + 1)) (b + 1)
      omega
    · split
      · obtain ⟨h1, h2, -⟩ := fnd_spec (fun i => !isD (T i)) (n - (b + 1)) (b + 1)
        omega
      · omega
  · omega
theorem nxK_ok {k : Nat} (hk : k ≤ n) : spK T n k ≤ nxK T n k ∧ nxK T n k ≤ n ∧ (spK T n k < n → spK T n k < nxK T n k) := enK_ok (spK_ok hk).2.1
theorem fnd_up {P : Nat → Bool} {G : Nat → Prop} : ∀ (f k : Nat), (∀ m, k ≤ m → m < k + f → P m = false → G (m + 1) → G m) → G (fnd P f k) → G k
  | 0, _, _, h => h
  | f + 1, k, hs, h => by
    unfold fnd at h
    cases c : P k
    · rw [c] at h
      exact hs k (Nat.le_refl k) (by omega) c (fnd_up f (k + 1) (fun m a b => hs m (by omega) (by omega)) h)
    · rw [c] at h
      exact h
end
/-! the class's tape -/
def CT (T : Nat → Int32) (n k : Nat) (s : Mg) : Prop := k ≤ n ∧ n ≤ 400 ∧ s 1 2 = nI n ∧ s 1 3 = nI (spK T n k) ∧ s 1 4 = nI (nxK T n k) ∧ ∀ i, i < n → s 2 i = T i
/-- the tape read on -/
def CN (sg s : Mg) : Prop := (∀ c, c ≠ 1 → s c = sg c) ∧ ∀ f, f ≠ 3 → f ≠ 4 → s 1 f = sg 1 f
theorem CT.eq {T : Nat → Int32} {n k : Nat} {sg s : Mg} (h : CT T n k sg) (e1 : s 1 = sg 1) (e2 : s 2 = sg 2) : CT T n k s := by
  unfold CT at h ⊢
  rw [e1, e2]
  exact h
theorem s_70k {X : Nat × (Nat → Int32)} {d : Nat} {p : Nat → Nat} {sg : Mg} {T : Nat → Int32} {n k : Nat} (hk : k ≤ n) (hn : n ≤ 400) (h2 : sg 1 2 = nI n) (h4 : sg 1 4 = nI k) (hT : ∀ i, i < n → sg 2 i = T i) : gF X (d + 1) 70 [vR 1] p sg (fun r => ∃ s, (CT T n k s ∧ CN sg s) ∧ r = gR0 p s) := by
  refine g_in (cd := k_70) (nL := 4) (rc := 9) rfl (g_A (a := 1) (kd := 0) (n := 8) rfl (by decide)) (g_c1 rfl) ?_
  show gW X d k_70 0 [some (vR 1), none, none, none] [] p sg _
  refine g_pure 1 (i' := 1) (lv' := [some (vR 1), none, none, none]) (st' := [vR 1]) rfl ?_
  refine g_getI rfl (g_A (a := 1) (kd := 0) (n := 8) rfl (by decide)) (show _ = nI k from h4) ?_
  refine g_pure 1 (i' := 3) (lv' := [some (vR 1), some (vI (nI k)), none, none]) (st' := []) rfl ?_
  obtain ⟨a1, a2, a3, a4⟩ := spK_ok (T := T) hk
  refine fnd_up (P := fun i => !decide (T i = 32)) (G := fun m => gW X d k_70 3 [some (vR 1), some (vI (nI m)), none, none] [] p sg _) (n - k) k (fun m m1 m2 hp ih => ?_) ?_
  · exact b_70_3 hn h2 (by omega) (fun h => hT m h) (fun h => by omega) (fun _ h => absurd (by simpa using hp) h) (fun _ _ => ih)
  show gW X d k_70 3 [some (vR 1), some (vI (nI (spK T n k))), none, none] [] p sg _
  have fin : ∀ (s1 : Mg) (m : Nat) z2 z3, s1 = mu sg 1 3 (nI (spK T n k)) → m = nxK T n k → gW X d k_70 80 [some (vR 1), some (vI (nI m)), z2, z3] [] p s1 (fun r => ∃ s, (CT T n k s ∧ CN sg s) ∧ r = gR0 p s) := fun s1 m z2 z3 e1 em => by
    refine g_pure 2 (i' := 82) (lv' := [some (vR 1), some (vI (nI m)), z2, z3]) (st' := [vI (nI m), vR 1]) rfl ?_
    refine g_putI rfl (g_A (a := 1) (kd := 0) (n := 8) rfl (by decide)) ?_
    refine g_vret rfl ⟨_, ⟨⟨hk, hn, ?_, ?_, ?_, fun i hi => ?_⟩, fun c hc => ?_, fun f f3 f4 => ?_⟩, rfl⟩
    · rw [mu_idx (by decide), e1, mu_idx (by decide)]; exact h2
    · rw [mu_idx (by decide), e1, mu_self]
    · rw [mu_self, em]
    · rw [mu_ne (by decide), e1, mu_ne (by decide)]; exact hT i hi
    · rw [mu_ne hc, e1, mu_ne hc]
    · rw [mu_idx f4, e1, mu_idx f3]
  have g15 : gW X d k_70 15 [some (vR 1), some (vI (nI (spK T n k))), none, none] [] p sg (fun r => ∃ s, (CT T n k s ∧ CN sg s) ∧ r = gR0 p s) := by
    have hX : ∀ s1 : Mg, s1 = mu sg 1 3 (nI (spK T n k)) → spK T n k < n → s1 2 (spK T n k) = T (spK T n k) := fun s1 e1 h => by rw [e1, mu_ne (by decide)]; exact hT _ h
    have run : ∀ (P : Int32 → Bool) (lo hi : Nat), lo ≤ 122 → hi ≤ 122 → (0 < hi ∨ hi = 0 ∧ ∀ x, P x = false) → (∀ x, P x = true ↔ ¬ x < nI lo ∧ ¬ nI hi < x ∨ False) ∨ hi = 0 → ∀ s1 : Mg, s1 = mu sg 1 3 (nI (spK T n k)) → spK T n k < n → nxK T n k = (if hi = 0 then spK T n k + 1 else fnd (fun i => !P (T i)) (n - (spK T n k + 1)) (spK T n k + 1)) → gW X d k_70 59 [some (vR 1), some (vI (nI (spK T n k))), some (vI (nI lo)), some (vI (nI hi))] [] p s1 (fun r => ∃ s, (CT T n k s ∧ CN sg s) ∧ r = gR0 p s) := fun P lo hi hlo hhi _ hP s1 e1 hb hnx => by
      have h2' : s1 1 2 = nI n := by rw [e1, mu_idx (by decide)]; exact h2
      have hT' : ∀ i, i < n → s1 2 i = T i := fun i hi => by rw [e1, mu_ne (by decide)]; exact hT i hi
      refine g_pure 1 (i' := 60) (lv' := [some (vR 1), some (vI (nI (spK T n k) + 1)), some (vI (nI lo)), some (vI (nI hi))]) (st' := []) rfl ?_
      refine gW_eq (lv' := [some (vR 1), some (vI (nI (spK T n k + 1))), some (vI (nI lo)), some (vI (nI hi))]) (by rw [← nI_add]; rfl) rfl rfl ?_
      by_cases h0 : hi = 0
      · rw [if_pos h0] at hnx
        exact b_70_60 (x := T (spK T n k + 1)) hn h2' (by omega) hlo hhi (fun h => hT' _ h) (fun _ => fin s1 _ _ _ e1 hnx.symm) (fun _ _ => fin s1 _ _ _ e1 hnx.symm) (fun _ h => absurd (by omega) h) (fun _ h => absurd (by omega) h) (fun _ h => absurd (by omega) h)
      · rw [if_neg h0] at hnx
        have hP : ∀ x, P x = true ↔ ¬ x < nI lo ∧ ¬ nI hi < x := fun x => by
          rcases hP with hP | hP
          · rw [hP x]; exact ⟨fun h => h.elim id (fun h => h.elim), Or.inl⟩
          · exact absurd hP h0
        obtain ⟨q1, q2, q3, q4⟩ := fnd_spec (fun i => !P (T i)) (n - (spK T n k + 1)) (spK T n k + 1)
        refine fnd_up (P := fun i => !P (T i)) (G := fun m => gW X d k_70 60 [some (vR 1), some (vI (nI m)), some (vI (nI lo)), some (vI (nI hi))] [] p s1 _) (n - (spK T n k + 1)) (spK T n k + 1) (fun m m1 m2 hp ih => ?_) ?_
        · have hp : P (T m) = true := by simpa using hp
          have hp := (hP _).mp hp
          exact b_70_60 hn h2' (by omega) hlo hhi (fun h => hT' m h) (fun h => by omega) (fun _ h => by omega) (fun _ _ h => absurd h hp.1) (fun _ _ _ h => absurd h hp.2) (fun _ _ _ _ => ih)
        · rw [← hnx] at q1 q2 q4 ⊢
          refine b_70_60 hn h2' (by omega) hlo hhi (fun h => hT' _ h) (fun _ => fin s1 _ _ _ e1 rfl) (fun _ _ => fin s1 _ _ _ e1 rfl) (fun _ _ _ => fin s1 _ _ _ e1 rfl) (fun _ _ _ _ => fin s1 _ _ _ e1 rfl) (fun h _ g1 g2 => ?_)
          have := q4 (by omega)
          rw [(hP _).mpr ⟨g1, g2⟩] at this
          cases this
    have eL : ∀ x : Int32, isL x = true ↔ ¬ x < nI 97 ∧ ¬ nI 122 < x := fun x => by
      show (!decide (x < nI 97) && !decide (nI 122 < x)) = true ↔ _
      simp
    have eD : ∀ x : Int32, isD x = true ↔ ¬ x < nI 48 ∧ ¬ nI 57 < x := fun x => by
      show (!decide (x < nI 48) && !decide (nI 57 < x)) = true ↔ _
      simp
    have nL : ∀ s1 : Mg, s1 = mu sg 1 3 (nI (spK T n k)) → spK T n k < n → isL (T (spK T n k)) = true → gW X d k_70 59 [some (vR 1), some (vI (nI (spK T n k))), some (vI (nI 97)), some (vI (nI 122))] [] p s1 (fun r => ∃ s, (CT T n k s ∧ CN sg s) ∧ r = gR0 p s) := fun s1 e1 h c => run isL 97 122 (by decide) (by decide) (Or.inl (by decide)) (Or.inl (fun x => by rw [eL x]; exact ⟨Or.inl, fun h => h.elim id (fun h => h.elim)⟩)) s1 e1 h (by unfold nxK enK; rw [if_pos h, if_pos c]; rfl)
    have nD : ∀ s1 : Mg, s1 = mu sg 1 3 (nI (spK T n k)) → spK T n k < n → ¬ isL (T (spK T n k)) = true → isD (T (spK T n k)) = true → gW X d k_70 59 [some (vR 1), some (vI (nI (spK T n k))), some (vI (nI 48)), some (vI (nI 57))] [] p s1 (fun r => ∃ s, (CT T n k s ∧ CN sg s) ∧ r = gR0 p s) := fun s1 e1 h c c2 => run isD 48 57 (by decide) (by decide) (Or.inl (by decide)) (Or.inl (fun x => by rw [eD x]; exact ⟨Or.inl, fun h => h.elim id (fun h => h.elim)⟩)) s1 e1 h (by unfold nxK enK; rw [if_pos h, if_neg c, if_pos c2]; rfl)
    have n0 : ∀ s1 : Mg, s1 = mu sg 1 3 (nI (spK T n k)) → spK T n k < n → ¬ isL (T (spK T n k)) = true → ¬ isD (T (spK T n k)) = true → gW X d k_70 59 [some (vR 1), some (vI (nI (spK T n k))), some (vI (nI 0)), some (vI (nI 0))] [] p s1 (fun r => ∃ s, (CT T n k s ∧ CN sg s) ∧ r = gR0 p s) := fun s1 e1 h c c2 => run (fun _ => false) 0 0 (by decide) (by decide) (Or.inr ⟨rfl, fun _ => rfl⟩) (Or.inr rfl) s1 e1 h (by unfold nxK enK; rw [if_pos h, if_neg c, if_neg c2]; rfl)
    refine b_70_15 hn h2 (by omega) (fun s1 e1 h => fin s1 _ _ _ e1 (by unfold nxK enK; rw [if_neg (by omega)])) (fun s1 e1 h => ?_) (fun s1 e1 h => ?_) (fun s1 e1 h => ?_) (fun s1 e1 h => ?_) (fun s1 e1 h => ?_) (fun s1 e1 h => ?_) (fun s1 e1 h => ?_)
    all_goals rw [hX s1 e1 (by omega)]
    · exact fun c1 c2 => n0 s1 e1 (by omega) (fun h9 => ((eL _).mp h9).1 c1) (fun h9 => ((eD _).mp h9).1 c2)
    · exact fun c1 c2 c3 => n0 s1 e1 (by omega) (fun h9 => ((eL _).mp h9).1 c1) (fun h9 => ((eD _).mp h9).2 c3)
    · exact fun c1 c2 c3 => nD s1 e1 (by omega) (fun h9 => ((eL _).mp h9).1 c1) ((eD _).mpr ⟨c2, c3⟩)
    · exact fun c1 c2 c3 => n0 s1 e1 (by omega) (fun h9 => ((eL _).mp h9).2 c2) (fun h9 => ((eD _).mp h9).1 c3)
    · exact fun c1 c2 c3 c4 => n0 s1 e1 (by omega) (fun h9 => ((eL _).mp h9).2 c2) (fun h9 => ((eD _).mp h9).2 c4)
    · exact fun c1 c2 c3 c4 => nD s1 e1 (by omega) (fun h9 => ((eL _).mp h9).2 c2) ((eD _).mpr ⟨c3, c4⟩)
    · exact fun c1 c2 => nL s1 e1 (by omega) ((eL _).mpr ⟨c1, c2⟩)
  exact b_70_3 hn h2 (by omega) (fun h => hT _ h) (fun _ => g15) (fun _ _ => g15) (fun h g => absurd g (a4 (by omega)))
theorem s_70 {X : Nat × (Nat → Int32)} {d : Nat} {p : Nat → Nat} {sg : Mg} {T : Nat → Int32} {n k : Nat} (h : CT T n k sg) : gF X (d + 1) 70 [vR 1] p sg (fun r => ∃ s, (CT T n (nxK T n k) s ∧ CN sg s) ∧ r = gR0 p s) := s_70k (nxK_ok h.1).2.1 h.2.1 h.2.2.1 h.2.2.2.2.1 h.2.2.2.2.2
theorem s_72 {X : Nat × (Nat → Int32)} {d : Nat} {p : Nat → Nat} {sg : Mg} {T : Nat → Int32} {n k : Nat} (h : CT T n k sg) : gF X (d + 1) 72 [vR 1] p sg (fun r => r = gRv p sg (if n ≤ spK T n k then 1 else 0)) := by
  have := spK_ok (T := T) h.1
  have hn := h.2.1
  exact g_in (cd := k_72) (nL := 1) (rc := 9) rfl (g_A (a := 1) (kd := 0) (n := 8) rfl (by decide)) (g_c1 rfl) (b_72_0 hn h.2.2.1 (by omega) h.2.2.2.1 (by have := nxK_ok (T := T) h.1; omega) h.2.2.2.2.1 (fun c => by rw [if_neg (by omega)]) (fun c => by rw [if_pos (by omega)]))
theorem s_78 {X : Nat × (Nat → Int32)} {d : Nat} {p : Nat → Nat} {sg : Mg} {T : Nat → Int32} {n k : Nat} (h : CT T n k sg) : gF X (d + 1) 78 [vR 1] p sg (fun r => r = gRv p sg (if dcN (isU T n k) = true then 1 else 0)) := by
  have := spK_ok (T := T) h.1
  have hn := h.2.1
  have eD : ∀ x : Int32, isD x = true ↔ ¬ x < 48 ∧ ¬ 57 < x := fun x => by unfold isD; simp
  refine g_in (cd := k_78) (nL := 1) (rc := 9) rfl (g_A (a := 1) (kd := 0) (n := 8) rfl (by decide)) (g_c1 rfl) (b_78_0 hn h.2.2.1 (by omega) h.2.2.2.1 (by have := nxK_ok (T := T) h.1; omega) h.2.2.2.2.1 (fun c => h.2.2.2.2.2 _ c) (fun c => ?_) (fun _ c => ?_) (fun _ _ c => ?_) (fun c1 c2 c3 => ?_))
  · rw [if_neg (dcN_n.mpr (fun g => by have := g.1; omega))]
  · rw [if_neg (dcN_n.mpr (fun g => ((eD _).mp g.2).1 c))]
  · rw [if_neg (dcN_n.mpr (fun g => ((eD _).mp g.2).2 c))]
  · rw [if_pos (dcN_t ⟨by omega, (eD _).mpr ⟨c2, c3⟩⟩)]
theorem s_79 {X : Nat × (Nat → Int32)} {d : Nat} {p : Nat → Nat} {sg : Mg} {T : Nat → Int32} {n k : Nat} {c : Int32} (h : CT T n k sg) : gF X (d + 1) 79 [vR 1, vI c] p sg (fun r => r = gRv p sg (if dcN (isG T n k c) = true then 1 else 0)) := by
  have := spK_ok (T := T) h.1
  have hn := h.2.1
  refine g_in (cd := k_79) (nL := 2) (rc := 9) rfl (g_A (a := 1) (kd := 0) (n := 8) rfl (by decide)) (g_c1 rfl) (b_79_0 hn h.2.2.1 (by omega) h.2.2.2.1 (by have := nxK_ok (T := T) h.1; omega) h.2.2.2.2.1 (fun c => h.2.2.2.2.2 _ c) (fun c => ?_) (fun _ c => ?_) (fun c1 c2 => ?_))
  · rw [if_neg (dcN_n.mpr (fun g => by have := g.1; omega))]
  · rw [if_neg (dcN_n.mpr (fun g => c g.2))]
  · rw [if_pos (dcN_t ⟨by omega, c2⟩)]
theorem sl_len : ∀ j, j < 77 → (am_SL j).length ≤ 40 := by decide +kernel
theorem s_74 {X : Nat × (Nat → Int32)} {d : Nat} {p : Nat → Nat} {sg : Mg} {T : Nat → Int32} {n k j : Nat} (hj : j < 77) (h : CT T n k sg) : gF X (d + 1) 74 [vR 1, vS j] p sg (fun r => r = gRv p sg (if dcN (isW T n k (am_SL j)) = true then 1 else 0)) := by
  have h1 := spK_ok (T := T) h.1
  have hx := nxK_ok (T := T) h.1
  have hn := h.2.1
  refine g_in (cd := k_74) (nL := 3) (rc := 9) rfl (g_A (a := 1) (kd := 0) (n := 8) rfl (by decide)) (g_c1 rfl) (b_74_0 hn h.2.2.1 (by omega) h.2.2.2.1 (by omega) h.2.2.2.2.1 hj (by omega) (sl_len j hj) (fun c => ?_) (fun c => ?_))
  · have key := g_upI (P := fun i => gW X d k_74 12 [some (vR 1), some (vS j), some (vI (nI i))] [] p sg (fun r => r = gRv p sg (if dcN (isW T n k (am_SL j)) = true then 1 else 0))) (I := fun i => ∀ q, q < i → T (spK T n k + q) = (am_SL j).getD q 0) (n := (am_SL j).length) (a := 0) (by omega) (fun q hq => absurd hq (Nat.not_lt_zero _)) ?_ ?_
    · exact key
    · intro i _ hi hin ih
      have e : sg 2 (spK T n k + i) = T (spK T n k + i) := h.2.2.2.2.2 _ (by omega)
      refine b_74_12 hn h.2.2.1 (by omega) h.2.2.2.1 (by omega) h.2.2.2.2.1 hj (by omega) (by omega) (fun g => by omega) (fun _ g => ih (fun q hq => ?_)) (fun _ g => ?_)
      · by_cases c9 : q = i
        · subst c9; rw [← e]; exact g
        · exact hin q (by omega)
      · rw [if_neg (dcN_n.mpr (fun w => g (by rw [e]; exact w.2 i hi)))]
    · intro hin
      refine b_74_12 hn h.2.2.1 (by omega) h.2.2.2.1 (by omega) h.2.2.2.2.1 hj (by omega) (by omega) (fun _ => ?_) (fun g => absurd (Nat.le_refl _) g) (fun g => absurd (Nat.le_refl _) g)
      rw [if_pos (dcN_t ⟨c, hin⟩)]
  · rw [if_neg (dcN_n.mpr (fun w => c w.1))]
