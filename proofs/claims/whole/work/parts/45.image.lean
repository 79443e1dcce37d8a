/-! THE REFERENCE: image, back, undo, remembers (made by wip/whole/gen45.py) -/
theorem va_up2 {sg : Mg} {a : Nat} {f g : Nat → Int32} : va_up (va_up sg a f) a g = va_up sg a g := by
  funext c
  by_cases h : c = a
  · subst h; rw [va_up_self, va_up_self]
  · rw [va_up_ne _ _ h, va_up_ne _ _ h, va_up_ne _ _ h]
theorem va_up_same {sg : Mg} {a : Nat} : va_up sg a (sg a) = sg := by
  funext c
  by_cases h : c = a
  · subst h; rw [va_up_self]
  · rw [va_up_ne _ _ h]
theorem row_step {sg : Mg} {a k : Nat} {f g : Nat → Int32} {x : Int32} (hk : g k = x) (hg : ∀ j, j ≠ k → g j = f j) : mu (va_up sg a f) a k x = va_up sg a g := by
  unfold mu
  rw [va_up2, va_up_self]
  congr 1
  funext j
  by_cases h : j = k
  · subst h; rw [upd_self, hk]
  · rw [upd_ne h, hg j h]

theorem b_179_0 {X : Nat × (Nat → Int32)} {d : Nat} {p : Nat → Nat} {sg : Mg} {Q : am_R → Prop} {S : Nat → Int32} (hS : sg 801 = S)
    (o1 : ∀ s1 : Mg, s1 = mu sg 800 0 0 → gW X (d) k_179 5 [some (vR 800), some (vI 0)] [] p s1 Q) :
    gW X (d) k_179 0 [some (vR 800), none] [] p sg Q := by
  refine g_pure 2 (i' := 2) (lv' := [some (vR 800), none]) (st' := [vI 0, vR 800]) rfl ?_
  refine g_putI rfl (g_A (a := 800) (kd := 0) (n := 12) rfl (by decide)) ?_
  refine g_setv (fun s1 es1 => ?_)
  have hSs1 : s1 801 = S := by rw [es1, mu_ne (by decide), hS]
  refine g_pure 2 (i' := 5) (lv' := [some (vR 800), some (vI 0)]) (st' := []) rfl ?_
  exact o1 s1 es1

theorem b_179_5 {X : Nat × (Nat → Int32)} {d : Nat} {p : Nat → Nat} {sg : Mg} {Q : am_R → Prop} {S : Nat → Int32} (hS : sg 801 = S) {k : Nat} (u_k : k ≤ 1558)
    (o1 : (1558 ≤ k) → ∀ s2 : Mg, s2 = mu sg 800 5 1 → Q (gR0 p s2))
    (o2 : (¬ (1558 ≤ k)) → ∀ s3 : Mg, s3 = mu sg 802 k (S k) → gW X (d) k_179 5 [some (vR 800), some (vI (nI (k + 1)))] [] p s3 Q) :
    gW X (d) k_179 5 [some (vR 800), some (vI (nI k))] [] p sg Q := by
  refine g_pure 2 (i' := 7) (lv' := [some (vR 800), some (vI (nI k))]) (st' := [vI 1558, vI (nI k)]) rfl ?_
  refine g_if2 (i' := 18) (P := 1558 ≤ k) rfl rfl (g_geN (show nI k = nI k from (rfl : nI k = nI k)) (show 1558 = nI 1558 from (show (1558 : Int32) = nI 1558 from rfl)) (by omega) (by omega)) (fun h1 => ?_) (fun h1 => ?_)
  · refine g_pure 2 (i' := 20) (lv' := [some (vR 800), some (vI (nI k))]) (st' := [vI 1, vR 800]) rfl ?_
    refine g_putB rfl (g_A (a := 800) (kd := 0) (n := 12) rfl (by decide)) g_nar1 ?_
    refine g_setv (fun s2 es2 => ?_)
    have hSs2 : s2 801 = S := by rw [es2, mu_ne (by decide), hS]
    refine g_vret rfl ?_
    exact o1 h1 s2 es2
  · refine g_pure 6 (i' := 14) (lv' := [some (vR 800), some (vI (nI k))]) (st' := [vI (nI k), vR 801, vI (nI k), vR 802]) rfl ?_
    refine g_ald rfl (g_A (a := 801) (kd := 1) (n := 2407) rfl (by decide)) (by decide) (show nI k = nI k from (rfl : nI k = nI k)) (by omega) (show _ = S k from (congrFun hS k)) ?_
    refine g_ast rfl (g_A (a := 802) (kd := 1) (n := 1558) rfl (by decide)) (by decide) (show nI k = nI k from (rfl : nI k = nI k)) (by omega) ?_
    refine g_setv (fun s3 es3 => ?_)
    have hSs3 : s3 801 = S := by rw [es3, mu_ne (by decide), hS]
    refine g_pure 2 (i' := 5) (lv' := [some (vR 800), some (vI (nI k + 1))]) (st' := []) rfl ?_
    refine gW_eq (lv' := [some (vR 800), some (vI (nI (k + 1)))]) (st' := []) (by rw [(show (nI k + 1) = nI (k + 1) from ((g_add (rfl : nI k = nI k) (show (1 : Int32) = nI 1 from rfl))).trans (congrArg nI (by omega)))]) rfl rfl ?_
    exact o2 h1 s3 es3

theorem b_180_0 {X : Nat × (Nat → Int32)} {d : Nat} {p : Nat → Nat} {sg : Mg} {Q : am_R → Prop} {S : Nat → Int32} (hS : sg 801 = S)
    (o1 : ∀ s1 : Mg, s1 = mu sg 800 0 0 → (¬ s1 800 5 = 0) → gW X (d) k_180 10 [some (vR 800), some (vI 0)] [] p s1 Q)
    (o2 : ∀ s1 : Mg, s1 = mu sg 800 0 0 → (s1 800 5 = 0) → Q (gRv p s1 0)) :
    gW X (d) k_180 0 [some (vR 800), none] [] p sg Q := by
  refine g_pure 2 (i' := 2) (lv' := [some (vR 800), none]) (st' := [vI 0, vR 800]) rfl ?_
  refine g_putI rfl (g_A (a := 800) (kd := 0) (n := 12) rfl (by decide)) ?_
  refine g_setv (fun s1 es1 => ?_)
  have hSs1 : s1 801 = S := by rw [es1, mu_ne (by decide), hS]
  refine g_pure 2 (i' := 5) (lv' := [some (vR 800), none]) (st' := [vI (s1 800 5)]) rfl ?_
  refine g_if1 (i' := 8) (P := ¬ s1 800 5 = 0) rfl rfl Iff.rfl (fun h2 => ?_) (fun h2 => ?_)
  · refine g_pure 2 (i' := 10) (lv' := [some (vR 800), some (vI 0)]) (st' := []) rfl ?_
    exact o1 s1 es1 h2
  · have h2 := Classical.not_not.mp h2
    refine g_pure 1 (i' := 7) (lv' := [some (vR 800), none]) (st' := [vI 0]) rfl ?_
    refine g_bret rfl g_nar0 ?_
    exact o2 s1 es1 h2

theorem b_180_10 {X : Nat × (Nat → Int32)} {d : Nat} {p : Nat → Nat} {sg : Mg} {Q : am_R → Prop} {S : Nat → Int32} (hS : sg 801 = S) {k : Nat} (u_k : k ≤ 1558)
    (o1 : (1558 ≤ k) → ∀ s2 : Mg, s2 = mu sg 800 6 0 → Q (gRv p s2 1))
    (o2 : (¬ (1558 ≤ k)) → ∀ s3 : Mg, s3 = mu sg 801 k (sg 802 k) → s3 801 = (upd S k (sg 802 k)) → gW X (d) k_180 10 [some (vR 800), some (vI (nI (k + 1)))] [] p s3 Q) :
    gW X (d) k_180 10 [some (vR 800), some (vI (nI k))] [] p sg Q := by
  refine g_pure 2 (i' := 12) (lv' := [some (vR 800), some (vI (nI k))]) (st' := [vI 1558, vI (nI k)]) rfl ?_
  refine g_if2 (i' := 23) (P := 1558 ≤ k) rfl rfl (g_geN (show nI k = nI k from (rfl : nI k = nI k)) (show 1558 = nI 1558 from (show (1558 : Int32) = nI 1558 from rfl)) (by omega) (by omega)) (fun h1 => ?_) (fun h1 => ?_)
  · refine g_pure 2 (i' := 25) (lv' := [some (vR 800), some (vI (nI k))]) (st' := [vI 0, vR 800]) rfl ?_
    refine g_putI rfl (g_A (a := 800) (kd := 0) (n := 12) rfl (by decide)) ?_
    refine g_setv (fun s2 es2 => ?_)
    have hSs2 : s2 801 = S := by rw [es2, mu_ne (by decide), hS]
    refine g_pure 1 (i' := 27) (lv' := [some (vR 800), some (vI (nI k))]) (st' := [vI 1]) rfl ?_
    refine g_bret rfl g_nar1 ?_
    exact o1 h1 s2 es2
  · refine g_pure 6 (i' := 19) (lv' := [some (vR 800), some (vI (nI k))]) (st' := [vI (nI k), vR 802, vI (nI k), vR 801]) rfl ?_
    refine g_ald rfl (g_A (a := 802) (kd := 1) (n := 1558) rfl (by decide)) (by decide) (show nI k = nI k from (rfl : nI k = nI k)) (by omega) (show _ = sg 802 k from rfl) ?_
    refine g_ast rfl (g_A (a := 801) (kd := 1) (n := 2407) rfl (by decide)) (by decide) (show nI k = nI k from (rfl : nI k = nI k)) (by omega) ?_
    refine g_setv (fun s3 es3 => ?_)
    have hSs3 : s3 801 = upd S k (sg 802 k) := by rw [es3, mu_row, hS]
    refine g_pure 2 (i' := 10) (lv' := [some (vR 800), some (vI (nI k + 1))]) (st' := []) rfl ?_
    refine gW_eq (lv' := [some (vR 800), some (vI (nI (k + 1)))]) (st' := []) (by rw [(show (nI k + 1) = nI (k + 1) from ((g_add (rfl : nI k = nI k) (show (1 : Int32) = nI 1 from rfl))).trans (congrArg nI (by omega)))]) rfl rfl ?_
    exact o2 h1 s3 es3 hSs3

theorem b_181_p {X : Nat × (Nat → Int32)} {d : Nat} {p : Nat → Nat} {sg : Mg} {Q : am_R → Prop} {S : Nat → Int32} (hS : sg 801 = S) {n : Nat} (u_n : n ≤ 12) (kn_800_6 : sg 800 6 = nI n) (q1 : 1 ≤ n)
    (o1 : ∀ s1 : Mg, s1 = mu sg 800 0 0 → ∀ s3 : Mg, s3 = mu s1 800 6 (nI (n - 1)) → gW X (d) k_181 16 [some (vR 800), some (vI 0)] [] p s3 Q) :
    gW X (d) k_181 0 [some (vR 800), none] [] p sg Q := by
  refine g_pure 2 (i' := 2) (lv' := [some (vR 800), none]) (st' := [vI 0, vR 800]) rfl ?_
  refine g_putI rfl (g_A (a := 800) (kd := 0) (n := 12) rfl (by decide)) ?_
  refine g_setv (fun s1 es1 => ?_)
  have kns1_800_6 : s1 800 6 = nI n := by rw [es1, mu_idx (by decide)]; exact kn_800_6
  have hSs1 : s1 801 = S := by rw [es1, mu_ne (by decide), hS]
  refine g_pure 1 (i' := 4) (lv' := [some (vR 800), none]) (st' := [vR 800]) rfl ?_
  refine g_getI rfl (g_A (a := 800) (kd := 0) (n := 12) rfl (by decide)) (show _ = nI n from kns1_800_6) ?_
  refine g_if1 (i' := 8) (P := ¬ n = 0) rfl rfl (g_neN (show nI n = nI n from (rfl : nI n = nI n)) (show 0 = nI 0 from (show (0 : Int32) = nI 0 from rfl)) (by omega) (by omega)) (fun _ => ?_) (fun h2 => absurd (by omega) h2)
  refine g_pure 2 (i' := 10) (lv' := [some (vR 800), none]) (st' := [vR 800, vR 800]) rfl ?_
  refine g_getI rfl (g_A (a := 800) (kd := 0) (n := 12) rfl (by decide)) (show _ = nI n from kns1_800_6) ?_
  refine g_pure 2 (i' := 13) (lv' := [some (vR 800), none]) (st' := [vI (nI n - 1), vR 800]) rfl ?_
  refine gW_eq (lv' := [some (vR 800), none]) (st' := [vI (nI (n - 1)), vR 800]) rfl (by rw [(show (nI n - 1) = nI (n - 1) from (g_sub (rfl : nI n = nI n) (show (1 : Int32) = nI 1 from rfl) (by omega)))]) rfl ?_
  refine g_putI rfl (g_A (a := 800) (kd := 0) (n := 12) rfl (by decide)) ?_
  refine g_setv (fun s3 es3 => ?_)
  have kns3_800_6 : s3 800 6 = nI (n - 1) := by rw [es3]; exact mu_self.trans ((rfl : nI (n - 1) = nI (n - 1)))
  have hSs3 : s3 801 = S := by rw [es3, mu_ne (by decide), hSs1]
  refine g_pure 2 (i' := 16) (lv' := [some (vR 800), some (vI 0)]) (st' := []) rfl ?_
  exact o1 s1 es1 s3 es3

theorem b_181_0 {X : Nat × (Nat → Int32)} {d : Nat} {p : Nat → Nat} {sg : Mg} {Q : am_R → Prop} {S : Nat → Int32} (hS : sg 801 = S) {n : Nat} (u_n : n ≤ 12) (kn_800_6 : sg 800 6 = nI n)
    (o1 : ∀ s1 : Mg, s1 = mu sg 800 0 0 → (¬ n = 0) → ∀ s3 : Mg, s3 = mu s1 800 6 (nI n - 1) → gW X (d) k_181 16 [some (vR 800), some (vI 0)] [] p s3 Q)
    (o2 : ∀ s1 : Mg, s1 = mu sg 800 0 0 → (n = 0) → Q (gRv p s1 0)) :
    gW X (d) k_181 0 [some (vR 800), none] [] p sg Q := by
  refine g_pure 2 (i' := 2) (lv' := [some (vR 800), none]) (st' := [vI 0, vR 800]) rfl ?_
  refine g_putI rfl (g_A (a := 800) (kd := 0) (n := 12) rfl (by decide)) ?_
  refine g_setv (fun s1 es1 => ?_)
  have kns1_800_6 : s1 800 6 = nI n := by rw [es1, mu_idx (by decide)]; exact kn_800_6
  have hSs1 : s1 801 = S := by rw [es1, mu_ne (by decide), hS]
  refine g_pure 1 (i' := 4) (lv' := [some (vR 800), none]) (st' := [vR 800]) rfl ?_
  refine g_getI rfl (g_A (a := 800) (kd := 0) (n := 12) rfl (by decide)) (show _ = nI n from kns1_800_6) ?_
  refine g_if1 (i' := 8) (P := ¬ n = 0) rfl rfl (g_neN (show nI n = nI n from (rfl : nI n = nI n)) (show 0 = nI 0 from (show (0 : Int32) = nI 0 from rfl)) (by omega) (by omega)) (fun h2 => ?_) (fun h2 => ?_)
  · refine g_pure 2 (i' := 10) (lv' := [some (vR 800), none]) (st' := [vR 800, vR 800]) rfl ?_
    refine g_getI rfl (g_A (a := 800) (kd := 0) (n := 12) rfl (by decide)) (show _ = nI n from kns1_800_6) ?_
    refine g_pure 2 (i' := 13) (lv' := [some (vR 800), none]) (st' := [vI (nI n - 1), vR 800]) rfl ?_
    refine g_putI rfl (g_A (a := 800) (kd := 0) (n := 12) rfl (by decide)) ?_
    refine g_setv (fun s3 es3 => ?_)
    have hSs3 : s3 801 = S := by rw [es3, mu_ne (by decide), hSs1]
    refine g_pure 2 (i' := 16) (lv' := [some (vR 800), some (vI 0)]) (st' := []) rfl ?_
    exact o1 s1 es1 h2 s3 es3
  · have h2 := Classical.not_not.mp h2
    refine g_pure 1 (i' := 7) (lv' := [some (vR 800), none]) (st' := [vI 0]) rfl ?_
    refine g_bret rfl g_nar0 ?_
    exact o2 s1 es1 h2

theorem b_181_16 {X : Nat × (Nat → Int32)} {d : Nat} {p : Nat → Nat} {sg : Mg} {Q : am_R → Prop} {S : Nat → Int32} (hS : sg 801 = S) {n : Nat} (u_n : n ≤ 12) (kn_800_6 : sg 800 6 = nI n) {k : Nat} (u_k : k ≤ 709) (q1 : n < 12)
    (o1 : (709 ≤ k) → Q (gRv p sg 1))
    (o2 : (¬ (709 ≤ k)) → ∀ s2 : Mg, s2 = mu sg 801 k (sg 804 (709 * n + k)) → s2 801 = (upd S k (sg 804 (709 * n + k))) → gW X (d) k_181 16 [some (vR 800), some (vI (nI (k + 1)))] [] p s2 Q) :
    gW X (d) k_181 16 [some (vR 800), some (vI (nI k))] [] p sg Q := by
  refine g_pure 2 (i' := 18) (lv' := [some (vR 800), some (vI (nI k))]) (st' := [vI 709, vI (nI k)]) rfl ?_
  refine g_if2 (i' := 34) (P := 709 ≤ k) rfl rfl (g_geN (show nI k = nI k from (rfl : nI k = nI k)) (show 709 = nI 709 from (show (709 : Int32) = nI 709 from rfl)) (by omega) (by omega)) (fun h1 => ?_) (fun h1 => ?_)
  · refine g_pure 1 (i' := 35) (lv' := [some (vR 800), some (vI (nI k))]) (st' := [vI 1]) rfl ?_
    refine g_bret rfl g_nar1 ?_
    exact o1 h1
  · refine g_pure 7 (i' := 26) (lv' := [some (vR 800), some (vI (nI k))]) (st' := [vR 800, vI 709, vR 804, vI (nI k), vR 801]) rfl ?_
    refine g_getI rfl (g_A (a := 800) (kd := 0) (n := 12) rfl (by decide)) (show _ = nI n from kn_800_6) ?_
    refine g_pure 3 (i' := 30) (lv' := [some (vR 800), some (vI (nI k))]) (st' := [vI ((709 * nI n) + nI k), vR 804, vI (nI k), vR 801]) rfl ?_
    refine gW_eq (lv' := [some (vR 800), some (vI (nI k))]) (st' := [vI (nI (709 * n + k)), vR 804, vI (nI k), vR 801]) rfl (by rw [(show ((709 * nI n) + nI k) = nI (709 * n + k) from ((g_add (g_mul (show (709 : Int32) = nI 709 from rfl) (rfl : nI n = nI n)) (rfl : nI k = nI k))).trans (congrArg nI (by omega)))]) rfl ?_
    refine g_ald rfl (g_A (a := 804) (kd := 1) (n := 8508) rfl (by decide)) (by decide) (show nI (709 * n + k) = nI (709 * n + k) from (rfl : nI (709 * n + k) = nI (709 * n + k))) (by omega) (show _ = sg 804 (709 * n + k) from rfl) ?_
    refine g_ast rfl (g_A (a := 801) (kd := 1) (n := 2407) rfl (by decide)) (by decide) (show nI k = nI k from (rfl : nI k = nI k)) (by omega) ?_
    refine g_setv (fun s2 es2 => ?_)
    have kns2_800_6 : s2 800 6 = nI n := by rw [es2, mu_ne (by decide)]; exact kn_800_6
    have hSs2 : s2 801 = upd S k (sg 804 (709 * n + k)) := by rw [es2, mu_row, hS]
    refine g_pure 2 (i' := 16) (lv' := [some (vR 800), some (vI (nI k + 1))]) (st' := []) rfl ?_
    refine gW_eq (lv' := [some (vR 800), some (vI (nI (k + 1)))]) (st' := []) (by rw [(show (nI k + 1) = nI (k + 1) from ((g_add (rfl : nI k = nI k) (show (1 : Int32) = nI 1 from rfl))).trans (congrArg nI (by omega)))]) rfl rfl ?_
    exact o2 h1 s2 es2 hSs2

theorem b_255_0 {X : Nat × (Nat → Int32)} {d : Nat} {p : Nat → Nat} {sg : Mg} {Q : am_R → Prop} {S : Nat → Int32} (hS : sg 801 = S) {n : Nat} (u_n : n ≤ 12) (kn_800_6 : sg 800 6 = nI n)
    (o1 : (¬ n = 12) → ∀ s2 : Mg, s2 = mu sg 800 6 (nI (n + 1)) → gW X (d) k_255 30 [some (vR 800), some (vI 0)] [] p s2 Q)
    (o2 : (n = 12) → gW X (d) k_255 6 [some (vR 800), some (vI 0)] [] p sg Q) :
    gW X (d) k_255 0 [some (vR 800), none] [] p sg Q := by
  refine g_pure 1 (i' := 1) (lv' := [some (vR 800), none]) (st' := [vR 800]) rfl ?_
  refine g_getI rfl (g_A (a := 800) (kd := 0) (n := 12) rfl (by decide)) (show _ = nI n from kn_800_6) ?_
  refine g_pure 1 (i' := 3) (lv' := [some (vR 800), none]) (st' := [vI 12, vI (nI n)]) rfl ?_
  refine g_if2 (i' := 22) (P := ¬ n = 12) rfl rfl (g_neN (show nI n = nI n from (rfl : nI n = nI n)) (show 12 = nI 12 from (show (12 : Int32) = nI 12 from rfl)) (by omega) (by omega)) (fun h1 => ?_) (fun h1 => ?_)
  · refine g_pure 2 (i' := 24) (lv' := [some (vR 800), none]) (st' := [vR 800, vR 800]) rfl ?_
    refine g_getI rfl (g_A (a := 800) (kd := 0) (n := 12) rfl (by decide)) (show _ = nI n from kn_800_6) ?_
    refine g_pure 2 (i' := 27) (lv' := [some (vR 800), none]) (st' := [vI (nI n + 1), vR 800]) rfl ?_
    refine gW_eq (lv' := [some (vR 800), none]) (st' := [vI (nI (n + 1)), vR 800]) rfl (by rw [(show (nI n + 1) = nI (n + 1) from ((g_add (rfl : nI n = nI n) (show (1 : Int32) = nI 1 from rfl))).trans (congrArg nI (by omega)))]) rfl ?_
    refine g_putI rfl (g_A (a := 800) (kd := 0) (n := 12) rfl (by decide)) ?_
    refine g_setv (fun s2 es2 => ?_)
    have kns2_800_6 : s2 800 6 = nI (n + 1) := by rw [es2]; exact mu_self.trans ((rfl : nI (n + 1) = nI (n + 1)))
    have hSs2 : s2 801 = S := by rw [es2, mu_ne (by decide), hS]
    refine g_pure 2 (i' := 30) (lv' := [some (vR 800), some (vI 0)]) (st' := []) rfl ?_
    exact o1 h1 s2 es2
  · have h1 := Classical.not_not.mp h1
    refine g_pure 2 (i' := 6) (lv' := [some (vR 800), some (vI 0)]) (st' := []) rfl ?_
    exact o2 h1

theorem b_255_6 {X : Nat × (Nat → Int32)} {d : Nat} {p : Nat → Nat} {sg : Mg} {Q : am_R → Prop} {S : Nat → Int32} (hS : sg 801 = S) {n : Nat} (u_n : n ≤ 12) (kn_800_6 : sg 800 6 = nI n) {k : Nat} (u_k : k ≤ 7799)
    (o1 : (7799 ≤ k) → gW X (d) k_255 30 [some (vR 800), some (vI 0)] [] p sg Q)
    (o2 : (¬ (7799 ≤ k)) → ∀ s2 : Mg, s2 = mu sg 804 k (sg 804 (709 + k)) → gW X (d) k_255 6 [some (vR 800), some (vI (nI (k + 1)))] [] p s2 Q) :
    gW X (d) k_255 6 [some (vR 800), some (vI (nI k))] [] p sg Q := by
  refine g_pure 2 (i' := 8) (lv' := [some (vR 800), some (vI (nI k))]) (st' := [vI 7799, vI (nI k)]) rfl ?_
  refine g_if2 (i' := 21) (P := 7799 ≤ k) rfl rfl (g_geN (show nI k = nI k from (rfl : nI k = nI k)) (show 7799 = nI 7799 from (show (7799 : Int32) = nI 7799 from rfl)) (by omega) (by omega)) (fun h1 => ?_) (fun h1 => ?_)
  · refine g_pure 3 (i' := 30) (lv' := [some (vR 800), some (vI 0)]) (st' := []) rfl ?_
    exact o1 h1
  · refine g_pure 8 (i' := 17) (lv' := [some (vR 800), some (vI (nI k))]) (st' := [vI (nI k + 709), vR 804, vI (nI k), vR 804]) rfl ?_
    refine gW_eq (lv' := [some (vR 800), some (vI (nI k))]) (st' := [vI (nI (709 + k)), vR 804, vI (nI k), vR 804]) rfl (by rw [(show (nI k + 709) = nI (709 + k) from ((g_add (rfl : nI k = nI k) (show (709 : Int32) = nI 709 from rfl))).trans (congrArg nI (by omega)))]) rfl ?_
    refine g_ald rfl (g_A (a := 804) (kd := 1) (n := 8508) rfl (by decide)) (by decide) (show nI (709 + k) = nI (709 + k) from (rfl : nI (709 + k) = nI (709 + k))) (by omega) (show _ = sg 804 (709 + k) from rfl) ?_
    refine g_ast rfl (g_A (a := 804) (kd := 1) (n := 8508) rfl (by decide)) (by decide) (show nI k = nI k from (rfl : nI k = nI k)) (by omega) ?_
    refine g_setv (fun s2 es2 => ?_)
    have kns2_800_6 : s2 800 6 = nI n := by rw [es2, mu_ne (by decide)]; exact kn_800_6
    have hSs2 : s2 801 = S := by rw [es2, mu_ne (by decide), hS]
    refine g_pure 2 (i' := 6) (lv' := [some (vR 800), some (vI (nI k + 1))]) (st' := []) rfl ?_
    refine gW_eq (lv' := [some (vR 800), some (vI (nI (k + 1)))]) (st' := []) (by rw [(show (nI k + 1) = nI (k + 1) from ((g_add (rfl : nI k = nI k) (show (1 : Int32) = nI 1 from rfl))).trans (congrArg nI (by omega)))]) rfl rfl ?_
    exact o2 h1 s2 es2

theorem b_255_30 {X : Nat × (Nat → Int32)} {d : Nat} {p : Nat → Nat} {sg : Mg} {Q : am_R → Prop} {S : Nat → Int32} (hS : sg 801 = S) {n : Nat} (u_n : n ≤ 12) (kn_800_6 : sg 800 6 = nI n) {k : Nat} (u_k : k ≤ 709) (q1 : 1 ≤ n)
    (o1 : (709 ≤ k) → Q (gR0 p sg))
    (o2 : (¬ (709 ≤ k)) → ∀ s2 : Mg, s2 = mu sg 804 (709 * (n - 1) + k) (S k) → gW X (d) k_255 30 [some (vR 800), some (vI (nI (k + 1)))] [] p s2 Q) :
    gW X (d) k_255 30 [some (vR 800), some (vI (nI k))] [] p sg Q := by
  refine g_pure 2 (i' := 32) (lv' := [some (vR 800), some (vI (nI k))]) (st' := [vI 709, vI (nI k)]) rfl ?_
  refine g_if2 (i' := 50) (P := 709 ≤ k) rfl rfl (g_geN (show nI k = nI k from (rfl : nI k = nI k)) (show 709 = nI 709 from (show (709 : Int32) = nI 709 from rfl)) (by omega) (by omega)) (fun h1 => ?_) (fun h1 => ?_)
  · refine g_vret rfl ?_
    exact o1 h1
  · refine g_pure 4 (i' := 37) (lv' := [some (vR 800), some (vI (nI k))]) (st' := [vR 800, vI 709, vR 804]) rfl ?_
    refine g_getI rfl (g_A (a := 800) (kd := 0) (n := 12) rfl (by decide)) (show _ = nI n from kn_800_6) ?_
    refine g_pure 8 (i' := 46) (lv' := [some (vR 800), some (vI (nI k))]) (st' := [vI (nI k), vR 801, vI ((709 * (nI n - 1)) + nI k), vR 804]) rfl ?_
    refine gW_eq (lv' := [some (vR 800), some (vI (nI k))]) (st' := [vI (nI k), vR 801, vI (nI (709 * (n - 1) + k)), vR 804]) rfl (by rw [(show ((709 * (nI n - 1)) + nI k) = nI (709 * (n - 1) + k) from ((g_add (g_mul (show (709 : Int32) = nI 709 from rfl) (g_sub (rfl : nI n = nI n) (show (1 : Int32) = nI 1 from rfl) (by omega))) (rfl : nI k = nI k))).trans (congrArg nI (by omega)))]) rfl ?_
    refine g_ald rfl (g_A (a := 801) (kd := 1) (n := 2407) rfl (by decide)) (by decide) (show nI k = nI k from (rfl : nI k = nI k)) (by omega) (show _ = S k from (congrFun hS k)) ?_
    refine g_ast rfl (g_A (a := 804) (kd := 1) (n := 8508) rfl (by decide)) (by decide) (show nI (709 * (n - 1) + k) = nI (709 * (n - 1) + k) from (rfl : nI (709 * (n - 1) + k) = nI (709 * (n - 1) + k))) (by omega) ?_
    refine g_setv (fun s2 es2 => ?_)
    have kns2_800_6 : s2 800 6 = nI n := by rw [es2, mu_ne (by decide)]; exact kn_800_6
    have hSs2 : s2 801 = S := by rw [es2, mu_ne (by decide), hS]
    refine g_pure 2 (i' := 30) (lv' := [some (vR 800), some (vI (nI k + 1))]) (st' := []) rfl ?_
    refine gW_eq (lv' := [some (vR 800), some (vI (nI (k + 1)))]) (st' := []) (by rw [(show (nI k + 1) = nI (k + 1) from ((g_add (rfl : nI k = nI k) (show (1 : Int32) = nI 1 from rfl))).trans (congrArg nI (by omega)))]) rfl rfl ?_
    exact o2 h1 s2 es2

theorem l_179_5 {X : Nat × (Nat → Int32)} {d : Nat} {p : Nat → Nat} {sg : Mg} {Q : am_R → Prop}  (x : Q (gR0 p (mu (va_up sg 802 (fun j => if j < 1558 then sg 801 j else sg 802 j)) 800 5 1))) :
    gW X d k_179 5 [some (vR 800), some (vI (nI 0))] [] p sg Q := by
  have key := g_upI (P := fun k => gW X d k_179 5 [some (vR 800), some (vI (nI k))] [] p (va_up sg 802 (fun j => if j < k then sg 801 j else sg 802 j)) Q) (I := fun _ => True) (n := 1558) (a := 0) (by omega) trivial (fun k _ hk _ ih => ?_) (fun _ => ?_)
  · have e : va_up sg 802 (fun j => if j < 0 then sg 801 j else sg 802 j) = sg := by
      rw [show (fun j => if j < 0 then sg 801 j else sg 802 j) = sg 802 from funext (fun j => by rw [if_neg (by omega)])]
      exact va_up_same
    rw [e] at key
    exact key
  · refine b_179_5 (S := (va_up sg 802 (fun j => if j < k then sg 801 j else sg 802 j)) 801) rfl (by omega) (fun h => by omega) (fun _ s2 e2  => ?_)
    rw [e2, row_step (g := fun j => if j < (k + 1) then sg 801 j else sg 802 j)]
    · exact ih trivial
    · rw [if_pos (by omega), va_up_ne _ _ (by decide)]
    · intro j hj; by_cases h : j < k; rw [if_pos h, if_pos (by omega)]; rw [if_neg h, if_neg (by omega)]
  · refine b_179_5 (S := (va_up sg 802 (fun j => if j < 1558 then sg 801 j else sg 802 j)) 801) rfl (by omega) (fun _ s2 e2 => by rw [e2]; exact x) (fun h => by omega)

theorem l_180_10 {X : Nat × (Nat → Int32)} {d : Nat} {p : Nat → Nat} {sg : Mg} {Q : am_R → Prop}  (x : Q (gRv p (mu (va_up sg 801 (fun j => if j < 1558 then sg 802 j else sg 801 j)) 800 6 0) 1)) :
    gW X d k_180 10 [some (vR 800), some (vI (nI 0))] [] p sg Q := by
  have key := g_upI (P := fun k => gW X d k_180 10 [some (vR 800), some (vI (nI k))] [] p (va_up sg 801 (fun j => if j < k then sg 802 j else sg 801 j)) Q) (I := fun _ => True) (n := 1558) (a := 0) (by omega) trivial (fun k _ hk _ ih => ?_) (fun _ => ?_)
  · have e : va_up sg 801 (fun j => if j < 0 then sg 802 j else sg 801 j) = sg := by
      rw [show (fun j => if j < 0 then sg 802 j else sg 801 j) = sg 801 from funext (fun j => by rw [if_neg (by omega)])]
      exact va_up_same
    rw [e] at key
    exact key
  · refine b_180_10 (S := (va_up sg 801 (fun j => if j < k then sg 802 j else sg 801 j)) 801) rfl (by omega) (fun h => by omega) (fun _ s2 e2 _ => ?_)
    rw [e2, row_step (g := fun j => if j < (k + 1) then sg 802 j else sg 801 j)]
    · exact ih trivial
    · rw [if_pos (by omega), va_up_ne _ _ (by decide)]
    · intro j hj; by_cases h : j < k; rw [if_pos h, if_pos (by omega)]; rw [if_neg h, if_neg (by omega)]
  · refine b_180_10 (S := (va_up sg 801 (fun j => if j < 1558 then sg 802 j else sg 801 j)) 801) rfl (by omega) (fun _ s2 e2 => by rw [e2]; exact x) (fun h => by omega)

theorem l_181_16 {X : Nat × (Nat → Int32)} {d : Nat} {p : Nat → Nat} {sg : Mg} {Q : am_R → Prop} {n : Nat} (h12 : n < 12) (hn : sg 800 6 = nI n) (x : Q (gRv p (va_up sg 801 (fun j => if j < 709 then sg 804 (709 * n + j) else sg 801 j)) 1)) :
    gW X d k_181 16 [some (vR 800), some (vI (nI 0))] [] p sg Q := by
  have key := g_upI (P := fun k => gW X d k_181 16 [some (vR 800), some (vI (nI k))] [] p (va_up sg 801 (fun j => if j < k then sg 804 (709 * n + j) else sg 801 j)) Q) (I := fun _ => True) (n := 709) (a := 0) (by omega) trivial (fun k _ hk _ ih => ?_) (fun _ => ?_)
  · have e : va_up sg 801 (fun j => if j < 0 then sg 804 (709 * n + j) else sg 801 j) = sg := by
      rw [show (fun j => if j < 0 then sg 804 (709 * n + j) else sg 801 j) = sg 801 from funext (fun j => by rw [if_neg (by omega)])]
      exact va_up_same
    rw [e] at key
    exact key
  · refine b_181_16 (n := n) (S := (va_up sg 801 (fun j => if j < k then sg 804 (709 * n + j) else sg 801 j)) 801) rfl (by omega) (show _ = nI n by rw [va_up_ne _ _ (by decide)]; exact hn) (by omega) h12 (fun h => by omega) (fun _ s2 e2 _ => ?_)
    rw [e2, row_step (g := fun j => if j < (k + 1) then sg 804 (709 * n + j) else sg 801 j)]
    · exact ih trivial
    · rw [if_pos (by omega), va_up_ne _ _ (by decide)]
    · intro j hj; by_cases h : j < k; rw [if_pos h, if_pos (by omega)]; rw [if_neg h, if_neg (by omega)]
  · refine b_181_16 (n := n) (S := (va_up sg 801 (fun j => if j < 709 then sg 804 (709 * n + j) else sg 801 j)) 801) rfl (by omega) (show _ = nI n by rw [va_up_ne _ _ (by decide)]; exact hn) (by omega) h12 (fun _ => ?_) (fun h => by omega)
    exact x

theorem l_255_6 {X : Nat × (Nat → Int32)} {d : Nat} {p : Nat → Nat} {sg : Mg} {Q : am_R → Prop} {n : Nat} (h12 : n ≤ 12) (hn : sg 800 6 = nI n) (x : gW X d k_255 30 [some (vR 800), some (vI (nI 0))] [] p (va_up sg 804 (fun j => if j < 7799 then sg 804 (709 + j) else sg 804 j)) Q) :
    gW X d k_255 6 [some (vR 800), some (vI (nI 0))] [] p sg Q := by
  have key := g_upI (P := fun k => gW X d k_255 6 [some (vR 800), some (vI (nI k))] [] p (va_up sg 804 (fun j => if j < k then sg 804 (709 + j) else sg 804 j)) Q) (I := fun _ => True) (n := 7799) (a := 0) (by omega) trivial (fun k _ hk _ ih => ?_) (fun _ => ?_)
  · have e : va_up sg 804 (fun j => if j < 0 then sg 804 (709 + j) else sg 804 j) = sg := by
      rw [show (fun j => if j < 0 then sg 804 (709 + j) else sg 804 j) = sg 804 from funext (fun j => by rw [if_neg (by omega)])]
      exact va_up_same
    rw [e] at key
    exact key
  · refine b_255_6 (n := n) (S := (va_up sg 804 (fun j => if j < k then sg 804 (709 + j) else sg 804 j)) 801) rfl (by omega) (show _ = nI n by rw [va_up_ne _ _ (by decide)]; exact hn) (by omega) (fun h => by omega) (fun _ s2 e2  => ?_)
    rw [e2, row_step (g := fun j => if j < (k + 1) then sg 804 (709 + j) else sg 804 j)]
    · exact ih trivial
    · rw [if_pos (by omega), va_up_self, if_neg (by omega)]
    · intro j hj; by_cases h : j < k; rw [if_pos h, if_pos (by omega)]; rw [if_neg h, if_neg (by omega)]
  · refine b_255_6 (n := n) (S := (va_up sg 804 (fun j => if j < 7799 then sg 804 (709 + j) else sg 804 j)) 801) rfl (by omega) (show _ = nI n by rw [va_up_ne _ _ (by decide)]; exact hn) (by omega) (fun _ => ?_) (fun h => by omega)
    exact x

theorem l_255_30 {X : Nat × (Nat → Int32)} {d : Nat} {p : Nat → Nat} {sg : Mg} {Q : am_R → Prop} {n : Nat} (h1 : 1 ≤ n) (h12 : n ≤ 12) (hn : sg 800 6 = nI n) (x : Q (gR0 p (va_up sg 804 (fun j => if 709 * (n - 1) ≤ j ∧ j < 709 * (n - 1) + 709 then sg 801 (j - 709 * (n - 1)) else sg 804 j)))) :
    gW X d k_255 30 [some (vR 800), some (vI (nI 0))] [] p sg Q := by
  have key := g_upI (P := fun k => gW X d k_255 30 [some (vR 800), some (vI (nI k))] [] p (va_up sg 804 (fun j => if 709 * (n - 1) ≤ j ∧ j < 709 * (n - 1) + k then sg 801 (j - 709 * (n - 1)) else sg 804 j)) Q) (I := fun _ => True) (n := 709) (a := 0) (by omega) trivial (fun k _ hk _ ih => ?_) (fun _ => ?_)
  · have e : va_up sg 804 (fun j => if 709 * (n - 1) ≤ j ∧ j < 709 * (n - 1) + 0 then sg 801 (j - 709 * (n - 1)) else sg 804 j) = sg := by
      rw [show (fun j => if 709 * (n - 1) ≤ j ∧ j < 709 * (n - 1) + 0 then sg 801 (j - 709 * (n - 1)) else sg 804 j) = sg 804 from funext (fun j => by rw [if_neg (by omega)])]
      exact va_up_same
    rw [e] at key
    exact key
  · refine b_255_30 (n := n) (S := (va_up sg 804 (fun j => if 709 * (n - 1) ≤ j ∧ j < 709 * (n - 1) + k then sg 801 (j - 709 * (n - 1)) else sg 804 j)) 801) rfl (by omega) (show _ = nI n by rw [va_up_ne _ _ (by decide)]; exact hn) (by omega) h1 (fun h => by omega) (fun _ s2 e2  => ?_)
    rw [e2, row_step (g := fun j => if 709 * (n - 1) ≤ j ∧ j < 709 * (n - 1) + (k + 1) then sg 801 (j - 709 * (n - 1)) else sg 804 j)]
    · exact ih trivial
    · rw [if_pos (by omega), va_up_ne _ _ (by decide)]; congr 1; omega
    · intro j hj; by_cases h : 709 * (n - 1) ≤ j ∧ j < 709 * (n - 1) + k; rw [if_pos h, if_pos (by omega)]; rw [if_neg h, if_neg (by omega)]
  · refine b_255_30 (n := n) (S := (va_up sg 804 (fun j => if 709 * (n - 1) ≤ j ∧ j < 709 * (n - 1) + 709 then sg 801 (j - 709 * (n - 1)) else sg 804 j)) 801) rfl (by omega) (show _ = nI n by rw [va_up_ne _ _ (by decide)]; exact hn) (by omega) h1 (fun _ => ?_) (fun h => by omega)
    exact x

theorem m_image {X : Nat × (Nat → Int32)} {d : Nat} {p : Nat → Nat} {sg : Mg} : gF X (d + 1) 179 [vR 800] p sg (fun r => r = gR0 p (mu (va_up (mu sg 800 0 0) 802 (fun j => if j < 1558 then sg 801 j else sg 802 j)) 800 5 1)) :=
  g_in (cd := k_179) (nL := 2) (rc := 13) rfl (g_A (a := 800) (kd := 0) (n := 12) rfl (by decide)) (g_c1 rfl) (b_179_0 (S := sg 801) rfl (fun s1 e1 => by
    refine l_179_5 ?_
    rw [e1, mu_ne (by decide), mu_ne (by decide)]))
theorem m_back0 {X : Nat × (Nat → Int32)} {d : Nat} {p : Nat → Nat} {sg : Mg} (h : sg 800 5 = 0) : gF X (d + 1) 180 [vR 800] p sg (fun r => r = gRv p (mu sg 800 0 0) 0) :=
  g_in (cd := k_180) (nL := 2) (rc := 13) rfl (g_A (a := 800) (kd := 0) (n := 12) rfl (by decide)) (g_c1 rfl) (b_180_0 (S := sg 801) rfl (fun s1 e1 h1 => absurd (by rw [e1, mu_idx (by decide)]; exact h) h1) (fun s1 e1 _ => by rw [e1]))
theorem m_back1 {X : Nat × (Nat → Int32)} {d : Nat} {p : Nat → Nat} {sg : Mg} (h : ¬ sg 800 5 = 0) : gF X (d + 1) 180 [vR 800] p sg (fun r => r = gRv p (mu (va_up (mu sg 800 0 0) 801 (fun j => if j < 1558 then sg 802 j else sg 801 j)) 800 6 0) 1) :=
  g_in (cd := k_180) (nL := 2) (rc := 13) rfl (g_A (a := 800) (kd := 0) (n := 12) rfl (by decide)) (g_c1 rfl) (b_180_0 (S := sg 801) rfl (fun s1 e1 _ => by
    refine l_180_10 ?_
    rw [e1, mu_ne (by decide), mu_ne (by decide)]) (fun s1 e1 h1 => absurd (by rw [e1, mu_idx (by decide)] at h1; exact h1) h))
theorem m_undo0 {X : Nat × (Nat → Int32)} {d : Nat} {p : Nat → Nat} {sg : Mg} (hn : sg 800 6 = nI 0) : gF X (d + 1) 181 [vR 800] p sg (fun r => r = gRv p (mu sg 800 0 0) 0) :=
  g_in (cd := k_181) (nL := 2) (rc := 13) rfl (g_A (a := 800) (kd := 0) (n := 12) rfl (by decide)) (g_c1 rfl) (b_181_0 (S := sg 801) (n := 0) rfl (by omega) hn (fun s1 e1 h1 => absurd rfl h1) (fun s1 e1 _ => by rw [e1]))
theorem m_undo1 {X : Nat × (Nat → Int32)} {d : Nat} {p : Nat → Nat} {sg : Mg} {n : Nat} (h1 : 1 ≤ n) (h12 : n ≤ 12) (hn : sg 800 6 = nI n) : gF X (d + 1) 181 [vR 800] p sg (fun r => r = gRv p (va_up (mu (mu sg 800 0 0) 800 6 (nI (n - 1))) 801 (fun j => if j < 709 then sg 804 (709 * (n - 1) + j) else sg 801 j)) 1) :=
  g_in (cd := k_181) (nL := 2) (rc := 13) rfl (g_A (a := 800) (kd := 0) (n := 12) rfl (by decide)) (g_c1 rfl) (b_181_p (S := sg 801) rfl h12 hn h1 (fun s1 e1 s3 e3 => by
    refine l_181_16 (n := n - 1) (by omega) (by rw [e3, mu_self]) ?_
    rw [e3, e1, mu_ne (by decide), mu_ne (by decide), mu_ne (by decide), mu_ne (by decide)]))
/-- the row of the acts behind one more -/
def actF (sg : Mg) (n j : Nat) : Int32 := if n = 12 then (if 7799 ≤ j ∧ j < 8508 then sg 801 (j - 7799) else if j < 7799 then sg 804 (709 + j) else sg 804 j) else (if 709 * n ≤ j ∧ j < 709 * n + 709 then sg 801 (j - 709 * n) else sg 804 j)
theorem s_255 {X : Nat × (Nat → Int32)} {d : Nat} {p : Nat → Nat} {sg : Mg} {n : Nat} (h12 : n ≤ 12) (hn : sg 800 6 = nI n) : gF X (d + 1) 255 [vR 800] p sg (fun r => r = gR0 p (va_up (mu sg 800 6 (nI (min (n + 1) 12))) 804 (actF sg n))) := by
  refine g_in (cd := k_255) (nL := 2) (rc := 13) rfl (g_A (a := 800) (kd := 0) (n := 12) rfl (by decide)) (g_c1 rfl) (b_255_0 (S := sg 801) rfl h12 hn ?_ ?_)
  · intro h s2 e2
    refine l_255_30 (n := n + 1) (by omega) (by omega) (by rw [e2, mu_self]) ?_
    rw [e2, mu_ne (by decide), mu_ne (by decide), Nat.min_eq_left (by omega)]
    congr 2
    funext j
    unfold actF
    rw [if_neg h]
    rfl
  · intro h
    subst h
    refine l_255_6 (n := 12) (by omega) hn (l_255_30 (n := 12) (by omega) (by omega) (by rw [va_up_ne _ _ (by decide)]; exact hn) ?_)
    rw [va_up2]
    have e : mu sg 800 6 (nI (min (12 + 1) 12)) = sg := by
      rw [show nI (min (12 + 1) 12) = sg 800 6 from hn.symm]
      unfold mu
      rw [show upd (sg 800) 6 (sg 800 6) = sg 800 from funext (fun j => by by_cases hj : j = 6; rw [hj, upd_self]; rw [upd_ne hj])]
      exact va_up_same
    rw [e]
    congr 2
