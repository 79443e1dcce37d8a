/-! TEXTS: words and numbers, in the reference (made by wip/whole/gen89zu.py) -/
theorem b_189_0 {X : Nat × (Nat → Int32)} {d : Nat} {p : Nat → Nat} {sg : Mg} {Q : am_R → Prop} {a : Nat} (u_a : a ≤ 400) (kn_800_9 : sg 800 9 = nI a) {n : Nat} (u_n : n ≤ 400) (kn_800_10 : sg 800 10 = nI n) {x : Int32} {lo : Int32} {hi : Int32} (hx : a < n → sg 805 a = x)
    (o1 : (n ≤ a) → Q (gRv p sg 0))
    (o2 : (¬ (n ≤ a)) → (x < lo) → Q (gRv p sg 0))
    (o3 : (¬ (n ≤ a)) → (¬ (x < lo)) → (hi < x) → Q (gRv p sg 0))
    (o4 : (¬ (n ≤ a)) → (¬ (x < lo)) → (¬ (hi < x)) → Q (gRv p sg 1)) :
    gW X (d) k_189 0 [some (vR 800), some (vI lo), some (vI hi)] [] p sg Q := by
  refine g_pure 1 (i' := 1) (lv' := [some (vR 800), some (vI lo), some (vI hi)]) (st' := [vR 800]) rfl ?_
  refine g_getI rfl (g_A (a := 800) (kd := 0) (n := 12) rfl (by decide)) (show _ = nI a from kn_800_9) ?_
  refine g_pure 1 (i' := 3) (lv' := [some (vR 800), some (vI lo), some (vI hi)]) (st' := [vR 800, vI (nI a)]) rfl ?_
  refine g_getI rfl (g_A (a := 800) (kd := 0) (n := 12) rfl (by decide)) (show _ = nI n from kn_800_10) ?_
  refine g_if2 (i' := 21) (P := n ≤ a) rfl rfl (g_geN (show nI a = nI a from (rfl : nI a = nI a)) (show nI n = nI n from (rfl : nI n = nI n)) (by omega) (by omega)) (fun h1 => ?_) (fun h1 => ?_)
  · refine g_pure 1 (i' := 22) (lv' := [some (vR 800), some (vI lo), some (vI hi)]) (st' := [vI 0]) rfl ?_
    refine g_bret rfl g_nar0 ?_
    exact o1 h1
  · refine g_pure 3 (i' := 8) (lv' := [some (vR 800), some (vI lo), some (vI hi)]) (st' := [vR 800, vR 805]) rfl ?_
    refine g_getI rfl (g_A (a := 800) (kd := 0) (n := 12) rfl (by decide)) (show _ = nI a from kn_800_9) ?_
    refine g_bald rfl (by decide) (g_A (a := 805) (kd := 2) (n := 400) rfl (by decide)) (by decide) (show nI a = nI a from (rfl : nI a = nI a)) (by omega) (show _ = x from (hx (by omega))) ?_
    refine g_pure 1 (i' := 11) (lv' := [some (vR 800), some (vI lo), some (vI hi)]) (st' := [vI lo, vI x]) rfl ?_
    refine g_if2 (i' := 21) (P := x < lo) rfl rfl Iff.rfl (fun h2 => ?_) (fun h2 => ?_)
    · refine g_pure 1 (i' := 22) (lv' := [some (vR 800), some (vI lo), some (vI hi)]) (st' := [vI 0]) rfl ?_
      refine g_bret rfl g_nar0 ?_
      exact o2 h1 h2
    · refine g_pure 3 (i' := 15) (lv' := [some (vR 800), some (vI lo), some (vI hi)]) (st' := [vR 800, vR 805]) rfl ?_
      refine g_getI rfl (g_A (a := 800) (kd := 0) (n := 12) rfl (by decide)) (show _ = nI a from kn_800_9) ?_
      refine g_bald rfl (by decide) (g_A (a := 805) (kd := 2) (n := 400) rfl (by decide)) (by decide) (show nI a = nI a from (rfl : nI a = nI a)) (by omega) (show _ = x from (hx (by omega))) ?_
      refine g_pure 1 (i' := 18) (lv' := [some (vR 800), some (vI lo), some (vI hi)]) (st' := [vI hi, vI x]) rfl ?_
      refine g_if2 (i' := 21) (P := hi < x) rfl rfl Iff.rfl (fun h3 => ?_) (fun h3 => ?_)
      · refine g_pure 1 (i' := 22) (lv' := [some (vR 800), some (vI lo), some (vI hi)]) (st' := [vI 0]) rfl ?_
        refine g_bret rfl g_nar0 ?_
        exact o3 h1 h2 h3
      · refine g_pure 2 (i' := 22) (lv' := [some (vR 800), some (vI lo), some (vI hi)]) (st' := [vI 1]) rfl ?_
        refine g_bret rfl g_nar1 ?_
        exact o4 h1 h2 h3

theorem b_193_0 {X : Nat × (Nat → Int32)} {d : Nat} {p : Nat → Nat} {sg : Mg} {Q : am_R → Prop} {a : Nat} (u_a : a ≤ 400) (kn_800_9 : sg 800 9 = nI a) {b : Nat} (u_b : b ≤ 400) (kn_800_11 : sg 800 11 = nI b) {j : Nat} (h_j : j < 77) (hba : b ≤ a) (hlen : (am_SL j).length ≤ 40)
    (o1 : (¬ (a - b) = (am_SL j).length) → gW X (d) k_193 12 [some (vR 800), some (vS j), some (vI 0), none] [] p sg Q)
    (o2 : ((a - b) = (am_SL j).length) → gW X (d) k_193 12 [some (vR 800), some (vS j), some (vI 1), none] [] p sg Q) :
    gW X (d) k_193 0 [some (vR 800), some (vS j), none, none] [] p sg Q := by
  refine g_pure 1 (i' := 1) (lv' := [some (vR 800), some (vS j), none, none]) (st' := [vR 800]) rfl ?_
  refine g_getI rfl (g_A (a := 800) (kd := 0) (n := 12) rfl (by decide)) (show _ = nI a from kn_800_9) ?_
  refine g_pure 1 (i' := 3) (lv' := [some (vR 800), some (vS j), none, none]) (st' := [vR 800, vI (nI a)]) rfl ?_
  refine g_getI rfl (g_A (a := 800) (kd := 0) (n := 12) rfl (by decide)) (show _ = nI b from kn_800_11) ?_
  refine g_pure 2 (i' := 6) (lv' := [some (vR 800), some (vS j), none, none]) (st' := [vS j, vI (nI a - nI b)]) rfl ?_
  refine gW_eq (lv' := [some (vR 800), some (vS j), none, none]) (st' := [vS j, vI (nI (a - b))]) rfl (by rw [(show (nI a - nI b) = nI (a - b) from (g_sub (rfl : nI a = nI a) (rfl : nI b = nI b) (by omega)))]) rfl ?_
  refine g_slen' rfl h_j rfl ?_
  refine gW_eq (lv' := [some (vR 800), some (vS j), none, none]) (st' := [vI (nI ((am_SL j).length)), vI (nI (a - b))]) rfl (by rw [(show nI (am_SL j).length = nI ((am_SL j).length) from (rfl : nI ((am_SL j).length) = nI ((am_SL j).length)))]) rfl ?_
  refine g_if2 (i' := 10) (P := ¬ (a - b) = (am_SL j).length) rfl rfl (g_neN (show nI (a - b) = nI (a - b) from (rfl : nI (a - b) = nI (a - b))) (show nI ((am_SL j).length) = nI ((am_SL j).length) from (rfl : nI ((am_SL j).length) = nI ((am_SL j).length))) (by omega) (by omega)) (fun h1 => ?_) (fun h1 => ?_)
  · refine g_pure 2 (i' := 12) (lv' := [some (vR 800), some (vS j), some (vI 0), none]) (st' := []) rfl ?_
    exact o1 h1
  · have h1 := Classical.not_not.mp h1
    refine g_pure 3 (i' := 12) (lv' := [some (vR 800), some (vS j), some (vI 1), none]) (st' := []) rfl ?_
    exact o2 h1

theorem b_193_14 {X : Nat × (Nat → Int32)} {d : Nat} {p : Nat → Nat} {sg : Mg} {Q : am_R → Prop} {a : Nat} (u_a : a ≤ 400) (kn_800_9 : sg 800 9 = nI a) {b : Nat} (u_b : b ≤ 400) (kn_800_11 : sg 800 11 = nI b) {j : Nat} (h_j : j < 77) {W : Prop} [Decidable W] {i : Nat} (u_i : i ≤ 40) (hbe : b + (am_SL j).length ≤ 400)
    (o1 : (¬ W) → Q (gRv p sg (if W then 1 else 0)))
    (o2 : (W) → ((am_SL j).length ≤ i) → Q (gRv p sg (if W then 1 else 0)))
    (o3 : (W) → (¬ ((am_SL j).length ≤ i)) → (¬ sg 805 (b + i) = ((am_SL j).getD i 0)) → gW X (d) k_193 14 [some (vR 800), some (vS j), some (vI 0), some (vI (nI (i + 1)))] [] p sg Q)
    (o4 : (W) → (¬ ((am_SL j).length ≤ i)) → (sg 805 (b + i) = ((am_SL j).getD i 0)) → gW X (d) k_193 14 [some (vR 800), some (vS j), some (vI 1), some (vI (nI (i + 1)))] [] p sg Q) :
    gW X (d) k_193 14 [some (vR 800), some (vS j), some (vI (if W then 1 else 0)), some (vI (nI i))] [] p sg Q := by
  refine g_pure 1 (i' := 15) (lv' := [some (vR 800), some (vS j), some (vI (if W then 1 else 0)), some (vI (nI i))]) (st' := [vI (if W then 1 else 0)]) rfl ?_
  refine g_if1 (i' := 37) (P := ¬ W) rfl rfl g_eqB (fun h1 => ?_) (fun h1 => ?_)
  · refine g_pure 1 (i' := 38) (lv' := [some (vR 800), some (vS j), some (vI (if W then 1 else 0)), some (vI (nI i))]) (st' := [vI (if W then 1 else 0)]) rfl ?_
    refine g_bret rfl g_narB ?_
    exact o1 h1
  · have h1 := Classical.not_not.mp h1
    refine g_pure 2 (i' := 18) (lv' := [some (vR 800), some (vS j), some (vI (if W then 1 else 0)), some (vI (nI i))]) (st' := [vS j, vI (nI i)]) rfl ?_
    refine g_slen' rfl h_j rfl ?_
    refine gW_eq (lv' := [some (vR 800), some (vS j), some (vI (if W then 1 else 0)), some (vI (nI i))]) (st' := [vI (nI ((am_SL j).length)), vI (nI i)]) rfl (by rw [(show nI (am_SL j).length = nI ((am_SL j).length) from (rfl : nI ((am_SL j).length) = nI ((am_SL j).length)))]) rfl ?_
    refine g_if2 (i' := 37) (P := (am_SL j).length ≤ i) rfl rfl (g_geN (show nI i = nI i from (rfl : nI i = nI i)) (show nI ((am_SL j).length) = nI ((am_SL j).length) from (rfl : nI ((am_SL j).length) = nI ((am_SL j).length))) (by omega) (by omega)) (fun h2 => ?_) (fun h2 => ?_)
    · refine g_pure 1 (i' := 38) (lv' := [some (vR 800), some (vS j), some (vI (if W then 1 else 0)), some (vI (nI i))]) (st' := [vI (if W then 1 else 0)]) rfl ?_
      refine g_bret rfl g_narB ?_
      exact o2 h1 h2
    · refine g_pure 3 (i' := 23) (lv' := [some (vR 800), some (vS j), some (vI (if W then 1 else 0)), some (vI (nI i))]) (st' := [vR 800, vR 805]) rfl ?_
      refine g_getI rfl (g_A (a := 800) (kd := 0) (n := 12) rfl (by decide)) (show _ = nI b from kn_800_11) ?_
      refine g_pure 2 (i' := 26) (lv' := [some (vR 800), some (vS j), some (vI (if W then 1 else 0)), some (vI (nI i))]) (st' := [vI (nI b + nI i), vR 805]) rfl ?_
      refine gW_eq (lv' := [some (vR 800), some (vS j), some (vI (if W then 1 else 0)), some (vI (nI i))]) (st' := [vI (nI (b + i)), vR 805]) rfl (by rw [(show (nI b + nI i) = nI (b + i) from ((g_add (rfl : nI b = nI b) (rfl : nI i = nI i))).trans (congrArg nI (by omega)))]) rfl ?_
      refine g_bald rfl (by decide) (g_A (a := 805) (kd := 2) (n := 400) rfl (by decide)) (by decide) (show nI (b + i) = nI (b + i) from (rfl : nI (b + i) = nI (b + i))) (by omega) (show _ = sg 805 (b + i) from rfl) ?_
      refine g_pure 2 (i' := 29) (lv' := [some (vR 800), some (vS j), some (vI (if W then 1 else 0)), some (vI (nI i))]) (st' := [vI (nI i), vS j, vI (sg 805 (b + i))]) rfl ?_
      refine g_schr' rfl h_j rfl (by omega) (show nI i = nI i from (rfl : nI i = nI i)) (by omega) ?_
      refine g_if2 (i' := 33) (P := ¬ sg 805 (b + i) = ((am_SL j).getD i 0)) rfl rfl Iff.rfl (fun h3 => ?_) (fun h3 => ?_)
      · refine g_pure 4 (i' := 14) (lv' := [some (vR 800), some (vS j), some (vI 0), some (vI (nI i + 1))]) (st' := []) rfl ?_
        refine gW_eq (lv' := [some (vR 800), some (vS j), some (vI 0), some (vI (nI (i + 1)))]) (st' := []) (by rw [(show (nI i + 1) = nI (i + 1) from ((g_add (rfl : nI i = nI i) (show (1 : Int32) = nI 1 from rfl))).trans (congrArg nI (by omega)))]) rfl rfl ?_
        exact o3 h1 h2 h3
      · have h3 := Classical.not_not.mp h3
        refine g_pure 5 (i' := 14) (lv' := [some (vR 800), some (vS j), some (vI 1), some (vI (nI i + 1))]) (st' := []) rfl ?_
        refine gW_eq (lv' := [some (vR 800), some (vS j), some (vI 1), some (vI (nI (i + 1)))]) (st' := []) (by rw [(show (nI i + 1) = nI (i + 1) from ((g_add (rfl : nI i = nI i) (show (1 : Int32) = nI 1 from rfl))).trans (congrArg nI (by omega)))]) rfl rfl ?_
        exact o4 h1 h2 h3

theorem b_197_9 {X : Nat × (Nat → Int32)} {d : Nat} {p : Nat → Nat} {sg : Mg} {Q : am_R → Prop} {a : Nat} (u_a : a ≤ 400) (kn_800_9 : sg 800 9 = nI a) {b : Nat} (u_b : b ≤ 400) (kn_800_11 : sg 800 11 = nI b) {x : Nat} {z1 : Option AV} {z2 : Option AV} {g : Nat} {v : Nat} (u_g : g ≤ 4) (u_v : v ≤ 9999) (hx : sg 805 a = nI x) (u_x : 48 ≤ x ∧ x ≤ 57) (hba : b ≤ a) (ha9 : a ≤ 399) (h3 : a - b < g → v ≤ 999)
    (o1 : (g ≤ (a - b)) → ∀ s2 : Mg, s2 = mu sg 800 9 (nI (a + 1)) → gW X (d + 2) k_197 36 [some (vR 800), z1, z2, some (vI (nI g)), some (vI (nI v))] [] p s2 Q)
    (o2 : (¬ (g ≤ (a - b))) → ∀ s3 : Mg, s3 = mu sg 800 9 (nI (a + 1)) → gW X (d + 2) k_197 36 [some (vR 800), z1, z2, some (vI (nI g)), some (vI (nI (10 * v + x - 48)))] [] p s3 Q) :
    gW X (d + 2) k_197 9 [some (vR 800), z1, z2, some (vI (nI g)), some (vI (nI v))] [] p sg Q := by
  refine g_pure 1 (i' := 10) (lv' := [some (vR 800), z1, z2, some (vI (nI g)), some (vI (nI v))]) (st' := [vR 800]) rfl ?_
  refine g_getI rfl (g_A (a := 800) (kd := 0) (n := 12) rfl (by decide)) (show _ = nI a from kn_800_9) ?_
  refine g_pure 1 (i' := 12) (lv' := [some (vR 800), z1, z2, some (vI (nI g)), some (vI (nI v))]) (st' := [vR 800, vI (nI a)]) rfl ?_
  refine g_getI rfl (g_A (a := 800) (kd := 0) (n := 12) rfl (by decide)) (show _ = nI b from kn_800_11) ?_
  refine g_pure 2 (i' := 15) (lv' := [some (vR 800), z1, z2, some (vI (nI g)), some (vI (nI v))]) (st' := [vI (nI g), vI (nI a - nI b)]) rfl ?_
  refine gW_eq (lv' := [some (vR 800), z1, z2, some (vI (nI g)), some (vI (nI v))]) (st' := [vI (nI g), vI (nI (a - b))]) rfl (by rw [(show (nI a - nI b) = nI (a - b) from (g_sub (rfl : nI a = nI a) (rfl : nI b = nI b) (by omega)))]) rfl ?_
  refine g_if2 (i' := 28) (P := g ≤ (a - b)) rfl rfl (g_geN (show nI (a - b) = nI (a - b) from (rfl : nI (a - b) = nI (a - b))) (show nI g = nI g from (rfl : nI g = nI g)) (by omega) (by omega)) (fun h1 => ?_) (fun h1 => ?_)
  · refine g_pure 4 (i' := 32) (lv' := [some (vR 800), z1, z2, some (vI (nI g)), some (vI (nI v))]) (st' := [vR 800, vR 800]) rfl ?_
    refine g_getI rfl (g_A (a := 800) (kd := 0) (n := 12) rfl (by decide)) (show _ = nI a from kn_800_9) ?_
    refine g_pure 2 (i' := 35) (lv' := [some (vR 800), z1, z2, some (vI (nI g)), some (vI (nI v))]) (st' := [vI (nI a + 1), vR 800]) rfl ?_
    refine gW_eq (lv' := [some (vR 800), z1, z2, some (vI (nI g)), some (vI (nI v))]) (st' := [vI (nI (a + 1)), vR 800]) rfl (by rw [(show (nI a + 1) = nI (a + 1) from ((g_add (rfl : nI a = nI a) (show (1 : Int32) = nI 1 from rfl))).trans (congrArg nI (by omega)))]) rfl ?_
    refine g_putI rfl (g_A (a := 800) (kd := 0) (n := 12) rfl (by decide)) ?_
    refine g_setv (fun s2 es2 => ?_)
    have kns2_800_9 : s2 800 9 = nI (a + 1) := by rw [es2]; exact mu_self.trans ((rfl : nI (a + 1) = nI (a + 1)))
    have kns2_800_11 : s2 800 11 = nI b := by rw [es2, mu_idx (by decide)]; exact kn_800_11
    exact o1 h1 s2 es2
  · refine g_pure 6 (i' := 22) (lv' := [some (vR 800), z1, z2, some (vI (nI g)), some (vI (nI v))]) (st' := [vR 800, vR 805, vI (10 * nI v)]) rfl ?_
    refine gW_eq (lv' := [some (vR 800), z1, z2, some (vI (nI g)), some (vI (nI v))]) (st' := [vR 800, vR 805, vI (nI (10 * v))]) rfl (by rw [(show (10 * nI v) = nI (10 * v) from ((g_mul (show (10 : Int32) = nI 10 from rfl) (rfl : nI v = nI v))).trans (congrArg nI (by omega)))]) rfl ?_
    refine g_getI rfl (g_A (a := 800) (kd := 0) (n := 12) rfl (by decide)) (show _ = nI a from kn_800_9) ?_
    refine g_bald rfl (by decide) (g_A (a := 805) (kd := 2) (n := 400) rfl (by decide)) (by decide) (show nI a = nI a from (rfl : nI a = nI a)) (by omega) (show _ = nI x from hx) ?_
    refine g_pure 2 (i' := 26) (lv' := [some (vR 800), z1, z2, some (vI (nI g)), some (vI (nI v))]) (st' := [vI 48, vI (nI (10 * v) + nI x)]) rfl ?_
    refine gW_eq (lv' := [some (vR 800), z1, z2, some (vI (nI g)), some (vI (nI v))]) (st' := [vI 48, vI (nI (10 * v + x))]) rfl (by rw [(show (nI (10 * v) + nI x) = nI (10 * v + x) from ((g_add (rfl : nI (10 * v) = nI (10 * v)) (rfl : nI x = nI x))).trans (congrArg nI (by omega)))]) rfl ?_
    refine g_pure 5 (i' := 32) (lv' := [some (vR 800), z1, z2, some (vI (nI g)), some (vI (nI (10 * v + x) - 48))]) (st' := [vR 800, vR 800]) rfl ?_
    refine gW_eq (lv' := [some (vR 800), z1, z2, some (vI (nI g)), some (vI (nI (10 * v + x - 48)))]) (st' := [vR 800, vR 800]) (by rw [(show (nI (10 * v + x) - 48) = nI (10 * v + x - 48) from (g_sub (rfl : nI (10 * v + x) = nI (10 * v + x)) (show (48 : Int32) = nI 48 from rfl) (by omega)))]) rfl rfl ?_
    refine g_getI rfl (g_A (a := 800) (kd := 0) (n := 12) rfl (by decide)) (show _ = nI a from kn_800_9) ?_
    refine g_pure 2 (i' := 35) (lv' := [some (vR 800), z1, z2, some (vI (nI g)), some (vI (nI (10 * v + x - 48)))]) (st' := [vI (nI a + 1), vR 800]) rfl ?_
    refine gW_eq (lv' := [some (vR 800), z1, z2, some (vI (nI g)), some (vI (nI (10 * v + x - 48)))]) (st' := [vI (nI (a + 1)), vR 800]) rfl (by rw [(show (nI a + 1) = nI (a + 1) from ((g_add (rfl : nI a = nI a) (show (1 : Int32) = nI 1 from rfl))).trans (congrArg nI (by omega)))]) rfl ?_
    refine g_putI rfl (g_A (a := 800) (kd := 0) (n := 12) rfl (by decide)) ?_
    refine g_setv (fun s3 es3 => ?_)
    have kns3_800_9 : s3 800 9 = nI (a + 1) := by rw [es3]; exact mu_self.trans ((rfl : nI (a + 1) = nI (a + 1)))
    have kns3_800_11 : s3 800 11 = nI b := by rw [es3, mu_idx (by decide)]; exact kn_800_11
    exact o2 h1 s3 es3

theorem b_197_37 {X : Nat × (Nat → Int32)} {d : Nat} {p : Nat → Nat} {sg : Mg} {Q : am_R → Prop} {a : Nat} (u_a : a ≤ 400) (kn_800_9 : sg 800 9 = nI a) {b : Nat} (u_b : b ≤ 400) (kn_800_11 : sg 800 11 = nI b) {lo : Nat} {hi : Int32} {g : Nat} {v : Nat} (u_lo : lo ≤ 9999) (u_g : g ≤ 4) (u_v : v ≤ 9999) (hba : b ≤ a)
    (o1 : (a = b) → Q (gRv p sg (-1)))
    (o2 : (¬ (a = b)) → (g < (a - b)) → Q (gRv p sg (-1)))
    (o3 : (¬ (a = b)) → (¬ (g < (a - b))) → (v < lo) → Q (gRv p sg (-1)))
    (o4 : (¬ (a = b)) → (¬ (g < (a - b))) → (¬ (v < lo)) → (nI v ≤ hi) → Q (gRv p sg (nI v)))
    (o5 : (¬ (a = b)) → (¬ (g < (a - b))) → (¬ (v < lo)) → (¬ (nI v ≤ hi)) → Q (gRv p sg (-1))) :
    gW X (d + 2) k_197 37 [some (vR 800), some (vI (nI lo)), some (vI hi), some (vI (nI g)), some (vI (nI v))] [] p sg Q := by
  refine g_pure 1 (i' := 38) (lv' := [some (vR 800), some (vI (nI lo)), some (vI hi), some (vI (nI g)), some (vI (nI v))]) (st' := [vR 800]) rfl ?_
  refine g_getI rfl (g_A (a := 800) (kd := 0) (n := 12) rfl (by decide)) (show _ = nI a from kn_800_9) ?_
  refine g_pure 1 (i' := 40) (lv' := [some (vR 800), some (vI (nI lo)), some (vI hi), some (vI (nI g)), some (vI (nI v))]) (st' := [vR 800, vI (nI a)]) rfl ?_
  refine g_getI rfl (g_A (a := 800) (kd := 0) (n := 12) rfl (by decide)) (show _ = nI b from kn_800_11) ?_
  refine g_if2 (i' := 55) (P := a = b) rfl rfl (g_eqN (show nI a = nI a from (rfl : nI a = nI a)) (show nI b = nI b from (rfl : nI b = nI b)) (by omega) (by omega)) (fun h1 => ?_) (fun h1 => ?_)
  · refine g_pure 2 (i' := 58) (lv' := [some (vR 800), some (vI (nI lo)), some (vI hi), some (vI (nI g)), some (vI (nI v))]) (st' := [vI (-1)]) rfl ?_
    refine g_iret rfl ?_
    exact o1 h1
  · refine g_pure 1 (i' := 43) (lv' := [some (vR 800), some (vI (nI lo)), some (vI hi), some (vI (nI g)), some (vI (nI v))]) (st' := [vR 800]) rfl ?_
    refine g_getI rfl (g_A (a := 800) (kd := 0) (n := 12) rfl (by decide)) (show _ = nI a from kn_800_9) ?_
    refine g_pure 1 (i' := 45) (lv' := [some (vR 800), some (vI (nI lo)), some (vI hi), some (vI (nI g)), some (vI (nI v))]) (st' := [vR 800, vI (nI a)]) rfl ?_
    refine g_getI rfl (g_A (a := 800) (kd := 0) (n := 12) rfl (by decide)) (show _ = nI b from kn_800_11) ?_
    refine g_pure 2 (i' := 48) (lv' := [some (vR 800), some (vI (nI lo)), some (vI hi), some (vI (nI g)), some (vI (nI v))]) (st' := [vI (nI g), vI (nI a - nI b)]) rfl ?_
    refine gW_eq (lv' := [some (vR 800), some (vI (nI lo)), some (vI hi), some (vI (nI g)), some (vI (nI v))]) (st' := [vI (nI g), vI (nI (a - b))]) rfl (by rw [(show (nI a - nI b) = nI (a - b) from (g_sub (rfl : nI a = nI a) (rfl : nI b = nI b) (by omega)))]) rfl ?_
    refine g_if2 (i' := 55) (P := g < (a - b)) rfl rfl (g_gtN (show nI (a - b) = nI (a - b) from (rfl : nI (a - b) = nI (a - b))) (show nI g = nI g from (rfl : nI g = nI g)) (by omega) (by omega)) (fun h2 => ?_) (fun h2 => ?_)
    · refine g_pure 2 (i' := 58) (lv' := [some (vR 800), some (vI (nI lo)), some (vI hi), some (vI (nI g)), some (vI (nI v))]) (st' := [vI (-1)]) rfl ?_
      refine g_iret rfl ?_
      exact o2 h1 h2
    · refine g_pure 2 (i' := 51) (lv' := [some (vR 800), some (vI (nI lo)), some (vI hi), some (vI (nI g)), some (vI (nI v))]) (st' := [vI (nI lo), vI (nI v)]) rfl ?_
      refine g_if2 (i' := 55) (P := v < lo) rfl rfl (g_ltN (show nI v = nI v from (rfl : nI v = nI v)) (show nI lo = nI lo from (rfl : nI lo = nI lo)) (by omega) (by omega)) (fun h3 => ?_) (fun h3 => ?_)
      · refine g_pure 2 (i' := 58) (lv' := [some (vR 800), some (vI (nI lo)), some (vI hi), some (vI (nI g)), some (vI (nI v))]) (st' := [vI (-1)]) rfl ?_
        refine g_iret rfl ?_
        exact o3 h1 h2 h3
      · refine g_pure 2 (i' := 54) (lv' := [some (vR 800), some (vI (nI lo)), some (vI hi), some (vI (nI g)), some (vI (nI v))]) (st' := [vI hi, vI (nI v)]) rfl ?_
        refine g_if2 (i' := 57) (P := nI v ≤ hi) rfl rfl Iff.rfl (fun h4 => ?_) (fun h4 => ?_)
        · refine g_pure 1 (i' := 58) (lv' := [some (vR 800), some (vI (nI lo)), some (vI hi), some (vI (nI g)), some (vI (nI v))]) (st' := [vI (nI v)]) rfl ?_
          refine g_iret rfl ?_
          exact o4 h1 h2 h3 h4
        · refine g_pure 2 (i' := 58) (lv' := [some (vR 800), some (vI (nI lo)), some (vI hi), some (vI (nI g)), some (vI (nI v))]) (st' := [vI (-1)]) rfl ?_
          refine g_iret rfl ?_
          exact o5 h1 h2 h3 h4

/-- the text, in the reference -/
def MX (T : Nat → Int32) (n : Nat) (s : Mg) : Prop := n ≤ 400 ∧ s 800 10 = nI n ∧ ∀ i, i < n → s 805 i = T i
/-- the tape read on -/
def MF (sg s : Mg) : Prop := (∀ c, c ≠ 800 → s c = sg c) ∧ ∀ f, f ≠ 9 → f ≠ 11 → s 800 f = sg 800 f
/-- what is next -/
def MK (T : Nat → Int32) (n k : Nat) (s : Mg) : Prop := MX T n s ∧ k ≤ n ∧ ∃ a, s 800 9 = nI a ∧ a ≤ n ∧ spK T n a = spK T n k
theorem MF.rf (sg : Mg) : MF sg sg := ⟨fun _ _ => rfl, fun _ _ _ => rfl⟩
theorem MF.tr {sg s s' : Mg} (h : MF sg s) (g : MF s s') : MF sg s' := ⟨fun c hc => (g.1 c hc).trans (h.1 c hc), fun f a b => (g.2 f a b).trans (h.2 f a b)⟩
theorem MX.mf {T : Nat → Int32} {n : Nat} {sg s : Mg} (h : MX T n sg) (g : MF sg s) : MX T n s := ⟨h.1, (g.2 10 (by decide) (by decide)).trans h.2.1, fun i hi => by rw [g.1 805 (by decide)]; exact h.2.2 i hi⟩
theorem MF.m9 {sg s : Mg} {x : Int32} (h : MF sg s) : MF sg (mu s 800 9 x) := ⟨fun c hc => (mu_ne hc).trans (h.1 c hc), fun f a b => (mu_idx a).trans (h.2 f a b)⟩
theorem MF.m11 {sg s : Mg} {x : Int32} (h : MF sg s) : MF sg (mu s 800 11 x) := ⟨fun c hc => (mu_ne hc).trans (h.1 c hc), fun f a b => (mu_idx b).trans (h.2 f a b)⟩
theorem s_189 {X : Nat × (Nat → Int32)} {d : Nat} {p : Nat → Nat} {sg : Mg} {T : Nat → Int32} {n a : Nat} {lo hi : Int32} (h : MX T n sg) (h9 : sg 800 9 = nI a) (ha : a ≤ n) : gF X (d + 1) 189 [vR 800, vI lo, vI hi] p sg (fun r => r = gRv p sg (if dcN (a < n ∧ ¬ T a < lo ∧ ¬ hi < T a) = true then 1 else 0)) := by
  have hn := h.1
  refine g_in (cd := k_189) (nL := 3) (rc := 13) rfl (g_A (a := 800) (kd := 0) (n := 12) rfl (by decide)) (g_c1 rfl) (b_189_0 (x := T a) (by omega) h9 hn h.2.1 (fun c => h.2.2 a c) (fun c => ?_) (fun _ c => ?_) (fun _ _ c => ?_) (fun c1 c2 c3 => ?_))
  · rw [if_neg (dcN_n.mpr (fun g => by have := g.1; omega))]
  · rw [if_neg (dcN_n.mpr (fun g => g.2.1 c))]
  · rw [if_neg (dcN_n.mpr (fun g => g.2.2 c))]
  · rw [if_pos (dcN_t ⟨by omega, c2, c3⟩)]
/-- a loop that passes what P says: from a to the first for which not P -/
theorem lp_pass {X : Nat × (Nat → Int32)} {d : Nat} {cd : List am_CE} {p : Nat → Nat} {sg : Mg} {T : Nat → Int32} {n : Nat} {i0 i1 : Nat} {lv : List (Option AV)} {Q : am_R → Prop} (P : Nat → Bool) (hX : MX T n sg)
    (step : ∀ (s : Mg) (m : Nat), MF sg s → s 800 11 = sg 800 11 → s 800 9 = nI m → m ≤ n → (m < n ∧ P m = false → gW X d cd i0 lv [] p (mu s 800 9 (nI (m + 1))) Q) → (¬ (m < n ∧ P m = false) → gW X d cd i1 lv [] p s Q) → gW X d cd i0 lv [] p s Q)
    (fin : ∀ (s : Mg) (m : Nat), MF sg s → s 800 11 = sg 800 11 → s 800 9 = nI m → m ≤ n → (m < n → P m = true) → ∀ a, a ≤ m → (m = fnd P (n - a) a) → (∀ j, a ≤ j → j < m → P j = false) → a = sn (sg 800) 9 → gW X d cd i1 lv [] p s Q) {a : Nat} (ha : a ≤ n) (h9 : sg 800 9 = nI a) : gW X d cd i0 lv [] p sg Q := by
  have hn := hX.1
  obtain ⟨q1, q2, q3, q4⟩ := fnd_spec P (n - a) a
  have ea : a = sn (sg 800) 9 := by unfold sn; rw [h9, nI_clamp (by omega)]
  have key : ∀ s, MF sg s → s 800 11 = sg 800 11 → s 800 9 = nI a → gW X d cd i0 lv [] p s Q := by
    refine fnd_up (P := P) (G := fun m => ∀ s, MF sg s → s 800 11 = sg 800 11 → s 800 9 = nI m → gW X d cd i0 lv [] p s Q) (n - a) a (fun m m1 m2 hp ih s hs h11 hm => ?_) (fun s hs h11 hm => ?_)
    · exact step s m hs h11 hm (by omega) (fun _ => ih _ hs.m9 (by rw [mu_idx (by decide)]; exact h11) mu_self) (fun g => absurd ⟨by omega, hp⟩ g)
    · refine step s _ hs h11 hm (by omega) (fun g => ?_) (fun g => ?_)
      · rw [q4 (by omega)] at g
        exact absurd g.2 (by decide)
      · exact fin s _ hs h11 hm (by omega) (fun c => q4 (by omega)) a q1 rfl q3 ea
  exact key sg (MF.rf sg) rfl h9
theorem s_188 {X : Nat × (Nat → Int32)} {d : Nat} {p : Nat → Nat} {sg : Mg} {T : Nat → Int32} {n a : Nat} (h : MX T n sg) (h9 : sg 800 9 = nI a) (ha : a ≤ n) : gF X (d + 2) 188 [vR 800] p sg (fun r => ∃ s, (MF sg s ∧ s 800 9 = nI (spK T n a) ∧ s 800 11 = nI (spK T n a)) ∧ r = gR0 p s) := by
  have hn := h.1
  refine g_in (cd := k_188) (nL := 1) (rc := 13) rfl (g_A (a := 800) (kd := 0) (n := 12) rfl (by decide)) (g_c1 rfl) ?_
  show gW X (d + 1) k_188 0 [some (vR 800)] [] p sg _
  refine lp_pass (i1 := 12) (fun i => !decide (T i = 32)) h (fun s m hs h11 hm hmn g1 g2 => ?_) (fun s m hs h11 hm hmn _ a' _ hf _ ea => ?_) ha h9
  · refine g_pure 3 (i' := 3) (lv' := [some (vR 800)]) (st' := [vI 32, vI 32, vR 800]) rfl ?_
    refine g_cV1 rfl (args := [vR 800, vI 32, vI 32]) (rest := []) rfl rfl rfl (s_189 (d := d) (h.mf hs) hm hmn) ?_
    have hc : (m < n ∧ ¬ T m < 32 ∧ ¬ 32 < T m) ↔ (m < n ∧ (!decide (T m = 32)) = false) := by
      constructor
      · intro ⟨c1, c2, c3⟩
        have : T m = 32 := Int32.le_antisymm (Int32.not_lt.mp c3) (Int32.not_lt.mp c2)
        exact ⟨c1, by simp [this]⟩
      · intro ⟨c1, c2⟩
        have : T m = 32 := by simpa using c2
        rw [this]
        exact ⟨c1, by decide, by decide⟩
    refine g_if1 (i' := 12) (P := ¬ dcN (m < n ∧ ¬ T m < 32 ∧ ¬ 32 < T m) = true) rfl rfl g_eqB (fun c => g2 (fun c9 => (dcN_n.mp c) (hc.mpr c9))) (fun c => ?_)
    refine g_pure 2 (i' := 7) (lv' := [some (vR 800)]) (st' := [vR 800, vR 800]) rfl ?_
    refine g_getI rfl (g_A (a := 800) (kd := 0) (n := 12) rfl (by decide)) (show _ = nI m from hm) ?_
    refine g_pure 2 (i' := 10) (lv' := [some (vR 800)]) (st' := [vI (nI m + 1), vR 800]) rfl ?_
    refine g_putI rfl (g_A (a := 800) (kd := 0) (n := 12) rfl (by decide)) ?_
    rw [show nI m + 1 = nI (m + 1) from nI_add m 1]
    refine g_pure 1 (i' := 0) (lv' := [some (vR 800)]) (st' := []) rfl ?_
    exact g1 (hc.mp (dcN_i.mp (Classical.not_not.mp c)))
  · refine g_pure 2 (i' := 14) (lv' := [some (vR 800)]) (st' := [vR 800, vR 800]) rfl ?_
    refine g_getI rfl (g_A (a := 800) (kd := 0) (n := 12) rfl (by decide)) (show _ = nI m from hm) ?_
    refine g_putI rfl (g_A (a := 800) (kd := 0) (n := 12) rfl (by decide)) ?_
    have e : m = spK T n a := by
      have : a' = a := by rw [ea]; unfold sn; rw [h9, nI_clamp (by omega)]
      rw [hf, this]; rfl
    exact g_vret rfl ⟨_, ⟨hs.m11, by rw [mu_idx (by decide), hm, e], by rw [mu_self, e]⟩, rfl⟩
/-- where the letters end -/
def ltK (T : Nat → Int32) (n k : Nat) : Nat := fnd (fun i => !isL (T i)) (n - spK T n k) (spK T n k)
theorem s_191 {X : Nat × (Nat → Int32)} {d : Nat} {p : Nat → Nat} {sg : Mg} {T : Nat → Int32} {n k : Nat} (h : MK T n k sg) : gF X (d + 3) 191 [vR 800] p sg (fun r => ∃ s, (MF sg s ∧ s 800 9 = nI (ltK T n k) ∧ s 800 11 = nI (spK T n k)) ∧ r = gR0 p s) := by
  obtain ⟨hX, hk, a, h9, ha, he⟩ := h
  have hn := hX.1
  have hb := spK_ok (T := T) hk
  refine g_in (cd := k_191) (nL := 1) (rc := 13) rfl (g_A (a := 800) (kd := 0) (n := 12) rfl (by decide)) (g_c1 rfl) ?_
  show gW X (d + 2) k_191 0 [some (vR 800)] [] p sg _
  refine g_pure 1 (i' := 1) (lv' := [some (vR 800)]) (st' := [vR 800]) rfl ?_
  refine g_cV0E (p' := p) rfl (args := [vR 800]) (rest := []) rfl rfl rfl (s_188 (d := d) hX h9 ha) (fun s1 h1 => ?_)
  rw [he] at h1
  refine lp_pass (i1 := 14) (fun i => !isL (T i)) (hX.mf h1.1) (fun s m hs h11 hm hmn g1 g2 => ?_) (fun s m hs h11 hm hmn _ a' _ hf _ ea => ?_) hb.2.1 h1.2.1
  · refine g_pure 3 (i' := 5) (lv' := [some (vR 800)]) (st' := [vI 122, vI 97, vR 800]) rfl ?_
    refine g_cV1 rfl (args := [vR 800, vI 97, vI 122]) (rest := []) rfl rfl rfl (s_189 (d := d + 1) ((hX.mf h1.1).mf hs) hm hmn) ?_
    have hc : (m < n ∧ ¬ T m < 97 ∧ ¬ 122 < T m) ↔ (m < n ∧ (!isL (T m)) = false) := by unfold isL; simp
    refine g_if1 (i' := 14) (P := ¬ dcN (m < n ∧ ¬ T m < 97 ∧ ¬ 122 < T m) = true) rfl rfl g_eqB (fun c => g2 (fun c9 => (dcN_n.mp c) (hc.mpr c9))) (fun c => ?_)
    refine g_pure 2 (i' := 9) (lv' := [some (vR 800)]) (st' := [vR 800, vR 800]) rfl ?_
    refine g_getI rfl (g_A (a := 800) (kd := 0) (n := 12) rfl (by decide)) (show _ = nI m from hm) ?_
    refine g_pure 2 (i' := 12) (lv' := [some (vR 800)]) (st' := [vI (nI m + 1), vR 800]) rfl ?_
    refine g_putI rfl (g_A (a := 800) (kd := 0) (n := 12) rfl (by decide)) ?_
    rw [show nI m + 1 = nI (m + 1) from nI_add m 1]
    refine g_pure 1 (i' := 2) (lv' := [some (vR 800)]) (st' := []) rfl ?_
    exact g1 (hc.mp (dcN_i.mp (Classical.not_not.mp c)))
  · have e : m = ltK T n k := by
      have : a' = spK T n k := by rw [ea]; unfold sn; rw [h1.2.1, nI_clamp (by omega)]
      rw [hf, this]; rfl
    exact g_vret rfl ⟨_, ⟨h1.1.tr hs, by rw [hm, e], by rw [h11]; exact h1.2.2⟩, rfl⟩
/-- a word as the reference has it: from b to e -/
def isR (T : Nat → Int32) (b e : Nat) (w : List Int32) : Prop := e - b = w.length ∧ ∀ i, i < w.length → T (b + i) = w.getD i 0
theorem s_193 {X : Nat × (Nat → Int32)} {d : Nat} {p : Nat → Nat} {sg : Mg} {T : Nat → Int32} {n b e j : Nat} (hj : j < 77) (h : MX T n sg) (h9 : sg 800 9 = nI e) (h11 : sg 800 11 = nI b) (hbe : b ≤ e) (hen : e ≤ n) : gF X (d + 1) 193 [vR 800, vS j] p sg (fun r => r = gRv p sg (if dcN (isR T b e (am_SL j)) = true then 1 else 0)) := by
  have hn := h.1
  have hl := sl_len j hj
  refine g_in (cd := k_193) (nL := 4) (rc := 13) rfl (g_A (a := 800) (kd := 0) (n := 12) rfl (by decide)) (g_c1 rfl) (b_193_0 (by omega) h9 (by omega) h11 hj hbe hl (fun c => ?_) (fun c => ?_))
  rotate_left
  · have key := g_upI (P := fun i => ∀ W : Bool, (W = true ↔ ∀ q, q < i → T (b + q) = (am_SL j).getD q 0) → gW X d k_193 14 [some (vR 800), some (vS j), some (vI (if W = true then 1 else 0)), some (vI (nI i))] [] p sg (fun r => r = gRv p sg (if dcN (isR T b e (am_SL j)) = true then 1 else 0))) (I := fun _ => True) (n := (am_SL j).length) (a := 0) (by omega) trivial ?_ ?_
    · refine g_pure 2 (i' := 14) (lv' := [some (vR 800), some (vS j), some (vI 1), some (vI 0)]) (st' := []) rfl ?_
      exact key true ⟨fun _ q hq => absurd hq (Nat.not_lt_zero _), fun _ => rfl⟩
    · intro i _ hi _ ih W hW
      have ih := ih trivial
      have e1 : sg 805 (b + i) = T (b + i) := h.2.2 _ (by omega)
      refine b_193_14 (by omega) h9 (by omega) h11 hj (W := W = true) (by omega) (by omega) (fun g => ?_) (fun _ g => by omega) (fun g1 g2 g3 => ?_) (fun g1 g2 g3 => ?_)
      · rw [if_neg g, if_neg (dcN_n.mpr (fun w => g (hW.mpr (fun q hq => w.2 q (by omega)))))]
      · exact ih false ⟨fun h => (by cases h), fun w => absurd (e1.trans (w i (by omega))) g3⟩
      · refine ih true ⟨fun _ q hq => ?_, fun _ => rfl⟩
        by_cases c9 : q = i
        · subst c9; rw [← e1]; exact g3
        · exact hW.mp g1 q (by omega)
    · intro _ W hW
      refine b_193_14 (by omega) h9 (by omega) h11 hj (W := W = true) (by omega) (by omega) (fun g => ?_) (fun g1 g => ?_) (fun g1 g2 g3 => absurd (Nat.le_refl _) g2) (fun g1 g2 g3 => absurd (Nat.le_refl _) g2)
      · rw [if_neg g, if_neg (dcN_n.mpr (fun w => g (hW.mpr w.2)))]
      · rw [if_pos g1, if_pos (dcN_t ⟨c, hW.mp g1⟩)]
  · refine g_pure 3 (i' := 15) (lv' := [some (vR 800), some (vS j), some (vI 0), some (vI 0)]) (st' := [vI 0]) rfl ?_
    refine g_if1 (i' := 37) (P := True) rfl rfl cd_eq0 (fun _ => ?_) (fun h => absurd trivial h)
    refine g_pure 1 (i' := 38) (lv' := [some (vR 800), some (vS j), some (vI 0), some (vI 0)]) (st' := [vI 0]) rfl ?_
    refine g_bret rfl g_nar0 ?_
    rw [if_neg (dcN_n.mpr (fun w => c w.1))]
/-- a word begins with a letter -/
def wL (w : List Int32) : Prop := w ≠ [] ∧ isL (w.getD 0 0) = true
theorem isR_W {T : Nat → Int32} {n k : Nat} (hk : k ≤ n) {w : List Int32} (hw : wL w) : isR T (spK T n k) (ltK T n k) w ↔ isW T n k w := by
  have hb := spK_ok (T := T) hk
  have hlen : w.length ≠ 0 := fun h => hw.1 (List.eq_nil_of_length_eq_zero h)
  by_cases c : spK T n k < n ∧ isL (T (spK T n k)) = true
  · have e : ltK T n k = nxK T n k := by
      unfold nxK enK ltK
      rw [if_pos c.1, if_pos c.2]
      obtain ⟨f, hf⟩ : ∃ f, n - spK T n k = f + 1 := ⟨n - spK T n k - 1, by omega⟩
      rw [hf]
      show (if (!isL (T (spK T n k))) = true then _ else fnd _ f _) = _
      rw [c.2, if_neg (by decide), show n - (spK T n k + 1) = f by omega]
    unfold isR isW
    rw [e]
  · have e : ltK T n k = spK T n k := by
      unfold ltK
      by_cases h : spK T n k < n
      · obtain ⟨f, hf⟩ : ∃ f, n - spK T n k = f + 1 := ⟨n - spK T n k - 1, by omega⟩
        rw [hf]
        show (if (!isL (T (spK T n k))) = true then _ else _) = _
        have : isL (T (spK T n k)) = false := by simpa using fun h9 => c ⟨h, h9⟩
        rw [this, if_pos (by decide)]
      · rw [show n - spK T n k = 0 by omega]; rfl
    constructor
    · intro h
      have := h.1
      rw [e] at this
      omega
    · intro h
      exfalso
      have h1 := nxK_ok (T := T) hk
      by_cases g : spK T n k < n
      · have := h.2 0 (by omega)
        rw [Nat.add_zero] at this
        exact c ⟨g, by rw [this]; exact hw.2⟩
      · have h2 : nxK T n k = spK T n k := by unfold nxK enK; rw [if_neg (by omega)]
        have := h.1
        omega
theorem ltK_W {T : Nat → Int32} {n k : Nat} (hk : k ≤ n) {w : List Int32} (hw : wL w) (h : isW T n k w) : ltK T n k = nxK T n k := by
  have h1 := ((isR_W hk hw).mpr h).1
  have h2 := h.1
  have h3 := nxK_ok (T := T) hk
  have h4 : spK T n k ≤ ltK T n k := (fnd_spec (fun i => !isL (T i)) (n - spK T n k) (spK T n k)).1
  omega
theorem ltK_le {T : Nat → Int32} {n k : Nat} (hk : k ≤ n) : spK T n k ≤ ltK T n k ∧ ltK T n k ≤ n := by
  have h4 := fnd_spec (fun i => !isL (T i)) (n - spK T n k) (spK T n k)
  have hb := spK_ok (T := T) hk
  have h1 : spK T n k ≤ ltK T n k := h4.1
  have h2 : ltK T n k ≤ spK T n k + (n - spK T n k) := h4.2.1
  omega
theorem spK_sp {T : Nat → Int32} {n k : Nat} (hk : k ≤ n) : spK T n (spK T n k) = spK T n k := by
  have h := spK_ok (T := T) hk
  by_cases c : spK T n k < n
  · have := h.2.2.2 c
    obtain ⟨f, hf⟩ : ∃ f, n - spK T n k = f + 1 := ⟨n - spK T n k - 1, by omega⟩
    show fnd _ (n - spK T n k) (spK T n k) = _
    rw [hf]
    show (if (!decide (T (spK T n k) = 32)) = true then _ else _) = _
    rw [decide_eq_false this, if_pos (by decide)]
  · show fnd _ (n - spK T n k) (spK T n k) = _
    rw [show n - spK T n k = 0 by omega]
    rfl
/-- behind letters: begin and point -/
def ML (T : Nat → Int32) (n k : Nat) (s : Mg) : Prop := MX T n s ∧ k ≤ n ∧ s 800 9 = nI (ltK T n k) ∧ s 800 11 = nI (spK T n k)
theorem ML.w {T : Nat → Int32} {n k : Nat} {s : Mg} (h : ML T n k s) {w : List Int32} (hw : wL w) (g : isW T n k w) : MK T n (nxK T n k) s := by
  have := nxK_ok (T := T) h.2.1
  exact ⟨h.1, this.2.1, nxK T n k, by rw [h.2.2.1, ltK_W h.2.1 hw g], this.2.1, rfl⟩
theorem s_193w {X : Nat × (Nat → Int32)} {d : Nat} {p : Nat → Nat} {sg : Mg} {T : Nat → Int32} {n k j : Nat} (hj : j < 77) (hw : wL (am_SL j)) (h : ML T n k sg) : gF X (d + 1) 193 [vR 800, vS j] p sg (fun r => r = gRv p sg (if dcN (isW T n k (am_SL j)) = true then 1 else 0)) := by
  have hl := ltK_le (T := T) h.2.1
  refine gF_mono (s_193 hj h.1 h.2.2.1 h.2.2.2 hl.1 hl.2) (fun r hr => ?_)
  rw [hr]
  by_cases c : isW T n k (am_SL j)
  · rw [if_pos (dcN_t c), if_pos (dcN_t ((isR_W h.2.1 hw).mpr c))]
  · rw [if_neg (dcN_n.mpr c), if_neg (dcN_n.mpr (fun g => c ((isR_W h.2.1 hw).mp g)))]
