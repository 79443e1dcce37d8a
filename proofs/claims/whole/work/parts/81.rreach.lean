/-! WAYS: what can be reached, in the reference (made by wip/whole/gen81.py) -/
theorem s_254b {X : Nat × (Nat → Int32)} {d : Nat} {p : Nat → Nat} {sg : Mg} {B : Nat} {S : Nat → Int32} (hI : Inv B S) (hS : sg 801 = S) (hA : InvA S) {k v t : Nat} (hk : k < sn S 1) (hv : v < sn S 0) (ht : t ≤ 200600) : gF X (d + 7) 254 [vR 800, vI (nI k), vI (nI v), vI (nI t)] p sg (fun r => ∃ s, (∃ f, s = va_up sg 807 f) ∧ r = gRv p s (if bd S k v t = true then 1 else 0)) := s_254 hI hS hA hk hv ht
/-- booleans in a row -/
def cnM (a n : Nat) (s : Mg) (C : Nat → Bool) : Prop := ∀ i, i < n → s a i = if C i = true then 1 else 0
def upB (C : Nat → Bool) (i x : Nat) : Bool := C x || decide (x = i)
theorem upB_self {C : Nat → Bool} {i : Nat} : upB C i i = true := by unfold upB; rw [decide_eq_true rfl, Bool.or_true]
theorem upB_ne {C : Nat → Bool} {i x : Nat} (h : ¬ x = i) : upB C i x = C x := by unfold upB; rw [decide_eq_false h, Bool.or_false]
theorem upB_old {C : Nat → Bool} {i x : Nat} (h : C x = true) : upB C i x = true := by unfold upB; rw [h]; rfl
theorem cnM.up {a n : Nat} {s : Mg} {C : Nat → Bool} (h : cnM a n s C) {i : Nat} : cnM a n (mu s a i 1) (upB C i) := fun x hx => by
  by_cases e : x = i
  · subst e
    rw [mu_self, upB_self, if_pos rfl]
  · rw [mu_idx e, upB_ne e]
    exact h x hx
theorem cnM.eq {a n : Nat} {s s' : Mg} {C : Nat → Bool} (h : cnM a n s C) (e : s' a = s a) : cnM a n s' C := fun i hi => by rw [e]; exact h i hi

theorem b_278_0 {X : Nat × (Nat → Int32)} {d : Nat} {p : Nat → Nat} {sg : Mg} {Q : am_R → Prop} {B : Nat} {S : Nat → Int32} (hI : Inv B S) (hS : sg 801 = S) {C : Nat → Bool} {t : Nat} {v : Nat} (u_t : t ≤ 205) (u_v : v ≤ 5) (hc : sg 809 (6 * t + v) = (if C (6 * t + v) = true then 1 else 0))
    (o1 : Q (gRv p sg (if C (6 * t + v) = true then 1 else 0))) :
    gW X (d + 1) k_278 0 [some (vR 800), some (vI (nI t)), some (vI (nI v))] [] p sg Q := by
  have b0 := hI.b0; have b1 := hI.b1; have b2 := hI.b2; have b3 := hI.b3; have b4 := hI.b4; have b5 := hI.b5; have b6 := hI.b6; have b7 := hI.b7; have b8 := hI.b8; have b9 := hI.b9; have b14 := hI.b14
  refine g_pure 7 (i' := 7) (lv' := [some (vR 800), some (vI (nI t)), some (vI (nI v))]) (st' := [vI ((6 * nI t) + nI v), vR 809]) rfl ?_
  refine gW_eq (lv' := [some (vR 800), some (vI (nI t)), some (vI (nI v))]) (st' := [vI (nI (6 * t + v)), vR 809]) rfl (by rw [(show ((6 * nI t) + nI v) = nI (6 * t + v) from ((g_add (g_mul (show (6 : Int32) = nI 6 from rfl) (rfl : nI t = nI t)) (rfl : nI v = nI v))).trans (congrArg nI (by omega)))]) rfl ?_
  refine g_bald rfl (by decide) (g_A (a := 809) (kd := 3) (n := 1236) rfl (by decide)) (by decide) (show nI (6 * t + v) = nI (6 * t + v) from (rfl : nI (6 * t + v) = nI (6 * t + v))) (by omega) (show _ = (if C (6 * t + v) = true then 1 else 0) from hc) ?_
  refine g_bret rfl g_narB ?_
  exact o1

theorem s_278 {X : Nat × (Nat → Int32)} {d : Nat} {p : Nat → Nat} {sg : Mg} {B : Nat} {S : Nat → Int32} (hI : Inv B S) (hS : sg 801 = S) {C : Nat → Bool} (hC : cnM 809 1236 sg C) {t v : Nat} (ht : t ≤ 205) (hv : v ≤ 5) : gF X (d + 2) 278 [vR 800, vI (nI t), vI (nI v)] p sg (fun r => r = gRv p sg (if C (6 * t + v) = true then 1 else 0)) := g_in (cd := k_278) (nL := 3) (rc := 13) rfl (g_A (a := 800) (kd := 0) (n := 12) rfl (by decide)) (g_c1 rfl) (b_278_0 hI hS ht hv (hC _ (by omega)) rfl)

theorem b_276_0 {X : Nat × (Nat → Int32)} {d : Nat} {p : Nat → Nat} {sg : Mg} {Q : am_R → Prop} {B : Nat} {S : Nat → Int32} (hI : Inv B S) (hS : sg 801 = S) {k : Nat} {v0 : Nat} {f : Nat} (u_k : k ≤ 7) (u_v0 : v0 ≤ 5) (u_f : f ≤ 205)
    (o1 : gW X (d + 8) k_276 2 [some (vR 800), some (vI (nI k)), some (vI (nI v0)), some (vI (nI f)), some (vI 0), none, none] [] p sg Q) :
    gW X (d + 8) k_276 0 [some (vR 800), some (vI (nI k)), some (vI (nI v0)), some (vI (nI f)), none, none, none] [] p sg Q := by
  have b0 := hI.b0; have b1 := hI.b1; have b2 := hI.b2; have b3 := hI.b3; have b4 := hI.b4; have b5 := hI.b5; have b6 := hI.b6; have b7 := hI.b7; have b8 := hI.b8; have b9 := hI.b9; have b14 := hI.b14
  refine g_pure 2 (i' := 2) (lv' := [some (vR 800), some (vI (nI k)), some (vI (nI v0)), some (vI (nI f)), some (vI 0), none, none]) (st' := []) rfl ?_
  exact o1

theorem b_276_2 {X : Nat × (Nat → Int32)} {d : Nat} {p : Nat → Nat} {sg : Mg} {Q : am_R → Prop} {B : Nat} {S : Nat → Int32} (hI : Inv B S) (hS : sg 801 = S) {k : Nat} {v0 : Nat} {f : Nat} {j : Nat} {z5 : Option AV} {z6 : Option AV} (u_k : k ≤ 7) (u_v0 : v0 ≤ 5) (u_f : f ≤ 205) (u_j : j ≤ 1236)
    (o1 : (1236 ≤ j) → (f ≤ 200) → ∀ s3 : Mg, s3 = mu sg 809 (6 * f + v0) 1 → gW X (d + 8) k_276 27 [some (vR 800), some (vI (nI k)), some (vI (nI v0)), some (vI (nI f)), some (vI (nI f)), z5, z6] [] p s3 Q)
    (o2 : (1236 ≤ j) → (¬ (f ≤ 200)) → Q (gR0 p sg))
    (o3 : (¬ (1236 ≤ j)) → ∀ s4 : Mg, s4 = mu sg 809 j 0 → gW X (d + 8) k_276 2 [some (vR 800), some (vI (nI k)), some (vI (nI v0)), some (vI (nI f)), some (vI (nI (j + 1))), z5, z6] [] p s4 Q) :
    gW X (d + 8) k_276 2 [some (vR 800), some (vI (nI k)), some (vI (nI v0)), some (vI (nI f)), some (vI (nI j)), z5, z6] [] p sg Q := by
  have b0 := hI.b0; have b1 := hI.b1; have b2 := hI.b2; have b3 := hI.b3; have b4 := hI.b4; have b5 := hI.b5; have b6 := hI.b6; have b7 := hI.b7; have b8 := hI.b8; have b9 := hI.b9; have b14 := hI.b14
  refine g_pure 3 (i' := 5) (lv' := [some (vR 800), some (vI (nI k)), some (vI (nI v0)), some (vI (nI f)), some (vI (nI j)), z5, z6]) (st' := [vR 809, vI (nI j)]) rfl ?_
  refine g_len rfl (by decide) (by decide) (g_A (a := 809) (kd := 3) (n := 1236) rfl (by decide)) ?_
  refine gW_eq (lv' := [some (vR 800), some (vI (nI k)), some (vI (nI v0)), some (vI (nI f)), some (vI (nI j)), z5, z6]) (st' := [vI 1236, vI (nI j)]) rfl (by rw [(show (nI 1236 : Int32) = 1236 from rfl)]) rfl ?_
  refine g_if2 (i' := 14) (P := 1236 ≤ j) rfl rfl (g_geN (show nI j = nI j from (rfl : nI j = nI j)) (show 1236 = nI 1236 from (show (1236 : Int32) = nI 1236 from rfl)) (by omega) (by omega)) (fun h1 => ?_) (fun h1 => ?_)
  · refine g_pure 2 (i' := 16) (lv' := [some (vR 800), some (vI (nI k)), some (vI (nI v0)), some (vI (nI f)), some (vI (nI j)), z5, z6]) (st' := [vI 200, vI (nI f)]) rfl ?_
    refine g_if2 (i' := 18) (P := f ≤ 200) rfl rfl (g_leN (show nI f = nI f from (rfl : nI f = nI f)) (show 200 = nI 200 from (show (200 : Int32) = nI 200 from rfl)) (by omega) (by omega)) (fun h2 => ?_) (fun h2 => ?_)
    · refine g_pure 4 (i' := 22) (lv' := [some (vR 800), some (vI (nI k)), some (vI (nI v0)), some (vI (nI f)), some (vI (nI j)), z5, z6]) (st' := [vI (nI v0), vI (nI f), vR 809]) rfl ?_
      refine g_cS1 rfl (args := [vI (nI f), vI (nI v0)]) (rest := [vR 809]) rfl rfl rfl (s_277 (d := d + 7) (by omega) (by omega)) ?_
      refine g_pure 1 (i' := 24) (lv' := [some (vR 800), some (vI (nI k)), some (vI (nI v0)), some (vI (nI f)), some (vI (nI j)), z5, z6]) (st' := [vI 1, vI (nI (6 * f + v0)), vR 809]) rfl ?_
      refine g_bast3 rfl (g_A (a := 809) (kd := 3) (n := 1236) rfl (by decide)) (by decide) (show nI (6 * f + v0) = nI (6 * f + v0) from (rfl : nI (6 * f + v0) = nI (6 * f + v0))) (by omega) g_nar1 ?_
      refine g_setv (fun s3 es3 => ?_)
      have hSs3 : s3 801 = S := by rw [es3, mu_ne (by decide), hS]
      refine g_pure 2 (i' := 27) (lv' := [some (vR 800), some (vI (nI k)), some (vI (nI v0)), some (vI (nI f)), some (vI (nI f)), z5, z6]) (st' := []) rfl ?_
      exact o1 h1 h2 s3 es3
    · refine g_vret rfl ?_
      exact o2 h1 h2
  · refine g_pure 4 (i' := 11) (lv' := [some (vR 800), some (vI (nI k)), some (vI (nI v0)), some (vI (nI f)), some (vI (nI j)), z5, z6]) (st' := [vI 0, vI (nI j), vR 809]) rfl ?_
    refine g_bast3 rfl (g_A (a := 809) (kd := 3) (n := 1236) rfl (by decide)) (by decide) (show nI j = nI j from (rfl : nI j = nI j)) (by omega) g_nar0 ?_
    refine g_setv (fun s4 es4 => ?_)
    have hSs4 : s4 801 = S := by rw [es4, mu_ne (by decide), hS]
    refine g_pure 2 (i' := 2) (lv' := [some (vR 800), some (vI (nI k)), some (vI (nI v0)), some (vI (nI f)), some (vI (nI j + 1)), z5, z6]) (st' := []) rfl ?_
    refine gW_eq (lv' := [some (vR 800), some (vI (nI k)), some (vI (nI v0)), some (vI (nI f)), some (vI (nI (j + 1))), z5, z6]) (st' := []) (by rw [(show (nI j + 1) = nI (j + 1) from ((g_add (rfl : nI j = nI j) (show (1 : Int32) = nI 1 from rfl))).trans (congrArg nI (by omega)))]) rfl rfl ?_
    exact o3 h1 s4 es4

theorem b_276_27 {X : Nat × (Nat → Int32)} {d : Nat} {p : Nat → Nat} {sg : Mg} {Q : am_R → Prop} {B : Nat} {S : Nat → Int32} (hI : Inv B S) (hS : sg 801 = S) {k : Nat} {z2 : Option AV} {z3 : Option AV} {t : Nat} {z5 : Option AV} {z6 : Option AV} (u_k : k ≤ 7) (u_t : t ≤ 205)
    (o1 : (200 ≤ t) → Q (gR0 p sg))
    (o2 : (¬ (200 ≤ t)) → gW X (d + 8) k_276 32 [some (vR 800), some (vI (nI k)), z2, z3, some (vI (nI t)), some (vI 0), z6] [] p sg Q) :
    gW X (d + 8) k_276 27 [some (vR 800), some (vI (nI k)), z2, z3, some (vI (nI t)), z5, z6] [] p sg Q := by
  have b0 := hI.b0; have b1 := hI.b1; have b2 := hI.b2; have b3 := hI.b3; have b4 := hI.b4; have b5 := hI.b5; have b6 := hI.b6; have b7 := hI.b7; have b8 := hI.b8; have b9 := hI.b9; have b14 := hI.b14
  refine g_pure 2 (i' := 29) (lv' := [some (vR 800), some (vI (nI k)), z2, z3, some (vI (nI t)), z5, z6]) (st' := [vI 200, vI (nI t)]) rfl ?_
  refine g_if2 (i' := 93) (P := 200 ≤ t) rfl rfl (g_geN (show nI t = nI t from (rfl : nI t = nI t)) (show 200 = nI 200 from (show (200 : Int32) = nI 200 from rfl)) (by omega) (by omega)) (fun h1 => ?_) (fun h1 => ?_)
  · refine g_vret rfl ?_
    exact o1 h1
  · refine g_pure 2 (i' := 32) (lv' := [some (vR 800), some (vI (nI k)), z2, z3, some (vI (nI t)), some (vI 0), z6]) (st' := []) rfl ?_
    exact o2 h1

theorem b_276_32 {X : Nat × (Nat → Int32)} {d : Nat} {p : Nat → Nat} {sg : Mg} {Q : am_R → Prop} {B : Nat} {S : Nat → Int32} (hI : Inv B S) (hS : sg 801 = S) {C : Nat → Bool} (hA : InvA S) (hC : cnM 809 1236 sg C) {k : Nat} {z2 : Option AV} {z3 : Option AV} {t : Nat} {j : Nat} {z6 : Option AV} (u_k : k ≤ 7) (u_t : t ≤ 199) (u_j : j ≤ 6) (q1 : k < sn S 1)
    (o1 : (sn S 0 ≤ j) → gW X (d + 8) k_276 27 [some (vR 800), some (vI (nI k)), z2, z3, some (vI (nI (t + 1))), some (vI (nI j)), z6] [] p sg Q)
    (o2 : (¬ (sn S 0 ≤ j)) → (C (6 * t + j) = true) → ∀ s3 : Mg, s3 = mu sg 809 (6 * (t + 1) + j) 1 → ∀ s4 : Mg, (∃ f, s4 = va_up s3 807 f) → (¬ (bd S k j (sn S 8 + t) = true)) → gW X (d + 8) k_276 63 [some (vR 800), some (vI (nI k)), z2, z3, some (vI (nI t)), some (vI (nI j)), some (vI 0)] [] p s4 Q)
    (o3 : (¬ (sn S 0 ≤ j)) → (C (6 * t + j) = true) → ∀ s3 : Mg, s3 = mu sg 809 (6 * (t + 1) + j) 1 → ∀ s4 : Mg, (∃ f, s4 = va_up s3 807 f) → ((bd S k j (sn S 8 + t) = true)) → gW X (d + 8) k_276 32 [some (vR 800), some (vI (nI k)), z2, z3, some (vI (nI t)), some (vI (nI (j + 1))), z6] [] p s4 Q)
    (o4 : (¬ (sn S 0 ≤ j)) → (¬ (C (6 * t + j) = true)) → gW X (d + 8) k_276 32 [some (vR 800), some (vI (nI k)), z2, z3, some (vI (nI t)), some (vI (nI (j + 1))), z6] [] p sg Q) :
    gW X (d + 8) k_276 32 [some (vR 800), some (vI (nI k)), z2, z3, some (vI (nI t)), some (vI (nI j)), z6] [] p sg Q := by
  have b0 := hI.b0; have b1 := hI.b1; have b2 := hI.b2; have b3 := hI.b3; have b4 := hI.b4; have b5 := hI.b5; have b6 := hI.b6; have b7 := hI.b7; have b8 := hI.b8; have b9 := hI.b9; have b14 := hI.b14
  refine g_pure 2 (i' := 34) (lv' := [some (vR 800), some (vI (nI k)), z2, z3, some (vI (nI t)), some (vI (nI j)), z6]) (st' := [vR 800, vI (nI j)]) rfl ?_
  refine g_cV1 rfl (args := [vR 800]) (rest := [vI (nI j)]) rfl rfl rfl (s_195 (d := d + 7) hS) ?_
  refine g_if2 (i' := 91) (P := sn S 0 ≤ j) rfl rfl (g_geN (show nI j = nI j from (rfl : nI j = nI j)) (show S 0 = nI (sn S 0) from (hI.c0)) (by omega) (by omega)) (fun h1 => ?_) (fun h1 => ?_)
  · refine g_pure 2 (i' := 27) (lv' := [some (vR 800), some (vI (nI k)), z2, z3, some (vI (nI t + 1)), some (vI (nI j)), z6]) (st' := []) rfl ?_
    refine gW_eq (lv' := [some (vR 800), some (vI (nI k)), z2, z3, some (vI (nI (t + 1))), some (vI (nI j)), z6]) (st' := []) (by rw [(show (nI t + 1) = nI (t + 1) from ((g_add (rfl : nI t = nI t) (show (1 : Int32) = nI 1 from rfl))).trans (congrArg nI (by omega)))]) rfl rfl ?_
    exact o1 h1
  · refine g_pure 3 (i' := 39) (lv' := [some (vR 800), some (vI (nI k)), z2, z3, some (vI (nI t)), some (vI (nI j)), z6]) (st' := [vI (nI j), vI (nI t), vR 800]) rfl ?_
    refine g_cV1 rfl (args := [vR 800, vI (nI t), vI (nI j)]) (rest := []) rfl rfl rfl (s_278 (d := d + 6) hI hS hC (by omega) (by omega)) ?_
    refine g_if1 (i' := 42) (P := C (6 * t + j) = true) rfl rfl g_neB (fun h2 => ?_) (fun h2 => ?_)
    · refine g_pure 6 (i' := 48) (lv' := [some (vR 800), some (vI (nI k)), z2, z3, some (vI (nI t)), some (vI (nI j)), z6]) (st' := [vI (nI j), vI (nI t + 1), vR 809]) rfl ?_
      refine gW_eq (lv' := [some (vR 800), some (vI (nI k)), z2, z3, some (vI (nI t)), some (vI (nI j)), z6]) (st' := [vI (nI j), vI (nI (t + 1)), vR 809]) rfl (by rw [(show (nI t + 1) = nI (t + 1) from ((g_add (rfl : nI t = nI t) (show (1 : Int32) = nI 1 from rfl))).trans (congrArg nI (by omega)))]) rfl ?_
      refine g_cS1 rfl (args := [vI (nI (t + 1)), vI (nI j)]) (rest := [vR 809]) rfl rfl rfl (s_277 (d := d + 7) (by omega) (by omega)) ?_
      refine g_pure 1 (i' := 50) (lv' := [some (vR 800), some (vI (nI k)), z2, z3, some (vI (nI t)), some (vI (nI j)), z6]) (st' := [vI 1, vI (nI (6 * (t + 1) + j)), vR 809]) rfl ?_
      refine g_bast3 rfl (g_A (a := 809) (kd := 3) (n := 1236) rfl (by decide)) (by decide) (show nI (6 * (t + 1) + j) = nI (6 * (t + 1) + j) from (rfl : nI (6 * (t + 1) + j) = nI (6 * (t + 1) + j))) (by omega) g_nar1 ?_
      refine g_setv (fun s3 es3 => ?_)
      have hSs3 : s3 801 = S := by rw [es3, mu_ne (by decide), hS]
      refine g_pure 4 (i' := 55) (lv' := [some (vR 800), some (vI (nI k)), z2, z3, some (vI (nI t)), some (vI (nI j)), z6]) (st' := [vR 800, vI (nI j), vI (nI k), vR 800]) rfl ?_
      refine g_cV1 rfl (args := [vR 800]) (rest := [vI (nI j), vI (nI k), vR 800]) rfl rfl rfl (s_248 (d := d + 7) hSs3) ?_
      refine g_pure 2 (i' := 58) (lv' := [some (vR 800), some (vI (nI k)), z2, z3, some (vI (nI t)), some (vI (nI j)), z6]) (st' := [vI (S 8 + nI t), vI (nI j), vI (nI k), vR 800]) rfl ?_
      refine gW_eq (lv' := [some (vR 800), some (vI (nI k)), z2, z3, some (vI (nI t)), some (vI (nI j)), z6]) (st' := [vI (nI (sn S 8 + t)), vI (nI j), vI (nI k), vR 800]) rfl (by rw [(show (S 8 + nI t) = nI (sn S 8 + t) from ((g_add (hI.c8) (rfl : nI t = nI t))).trans (congrArg nI (by omega)))]) rfl ?_
      refine g_cV1E rfl (args := [vR 800, vI (nI k), vI (nI j), vI (nI (sn S 8 + t))]) (rest := []) rfl rfl rfl (s_254b (d := d + 1) hI hSs3 hA (by omega) (by omega) (by omega)) (fun s4 es4 => ?_)
      have hSs4 : s4 801 = S := by obtain ⟨f9, h9⟩ := es4; rw [h9, va_up_ne _ _ (by decide)]; exact hSs3
      refine g_if1 (i' := 61) (P := ¬ (bd S k j (sn S 8 + t) = true)) rfl rfl g_eqB (fun h5 => ?_) (fun h5 => ?_)
      · refine g_pure 2 (i' := 63) (lv' := [some (vR 800), some (vI (nI k)), z2, z3, some (vI (nI t)), some (vI (nI j)), some (vI 0)]) (st' := []) rfl ?_
        exact o2 h1 h2 s3 es3 s4 es4 h5
      · have h5 := Classical.not_not.mp h5
        refine g_pure 3 (i' := 32) (lv' := [some (vR 800), some (vI (nI k)), z2, z3, some (vI (nI t)), some (vI (nI j + 1)), z6]) (st' := []) rfl ?_
        refine gW_eq (lv' := [some (vR 800), some (vI (nI k)), z2, z3, some (vI (nI t)), some (vI (nI (j + 1))), z6]) (st' := []) (by rw [(show (nI j + 1) = nI (j + 1) from ((g_add (rfl : nI j = nI j) (show (1 : Int32) = nI 1 from rfl))).trans (congrArg nI (by omega)))]) rfl rfl ?_
        exact o3 h1 h2 s3 es3 s4 es4 h5
    · refine g_pure 3 (i' := 32) (lv' := [some (vR 800), some (vI (nI k)), z2, z3, some (vI (nI t)), some (vI (nI j + 1)), z6]) (st' := []) rfl ?_
      refine gW_eq (lv' := [some (vR 800), some (vI (nI k)), z2, z3, some (vI (nI t)), some (vI (nI (j + 1))), z6]) (st' := []) (by rw [(show (nI j + 1) = nI (j + 1) from ((g_add (rfl : nI j = nI j) (show (1 : Int32) = nI 1 from rfl))).trans (congrArg nI (by omega)))]) rfl rfl ?_
      exact o4 h1 h2

theorem b_276_63 {X : Nat × (Nat → Int32)} {d : Nat} {p : Nat → Nat} {sg : Mg} {Q : am_R → Prop} {B : Nat} {S : Nat → Int32} (hI : Inv B S) (hS : sg 801 = S) {k : Nat} {z2 : Option AV} {z3 : Option AV} {t : Nat} {v : Nat} {j : Nat} (u_k : k ≤ 7) (u_t : t ≤ 199) (u_v : v ≤ 5) (u_j : j ≤ 12) (q1 : v < sn S 0)
    (o1 : (sn S 3 ≤ j) → gW X (d + 8) k_276 32 [some (vR 800), some (vI (nI k)), z2, z3, some (vI (nI t)), some (vI (nI (v + 1))), some (vI (nI j))] [] p sg Q)
    (o2 : (¬ (sn S 3 ≤ j)) → (otP S j v) → gW X (d + 8) k_276 72 [some (vR 800), some (vI (nI k)), z2, z3, some (vI (nI t)), some (vI (nI v)), some (vI (nI j))] [] p sg Q)
    (o3 : (¬ (sn S 3 ≤ j)) → (¬ otP S j v) → gW X (d + 8) k_276 63 [some (vR 800), some (vI (nI k)), z2, z3, some (vI (nI t)), some (vI (nI v)), some (vI (nI (j + 1)))] [] p sg Q) :
    gW X (d + 8) k_276 63 [some (vR 800), some (vI (nI k)), z2, z3, some (vI (nI t)), some (vI (nI v)), some (vI (nI j))] [] p sg Q := by
  have b0 := hI.b0; have b1 := hI.b1; have b2 := hI.b2; have b3 := hI.b3; have b4 := hI.b4; have b5 := hI.b5; have b6 := hI.b6; have b7 := hI.b7; have b8 := hI.b8; have b9 := hI.b9; have b14 := hI.b14
  refine g_pure 2 (i' := 65) (lv' := [some (vR 800), some (vI (nI k)), z2, z3, some (vI (nI t)), some (vI (nI v)), some (vI (nI j))]) (st' := [vR 800, vI (nI j)]) rfl ?_
  refine g_cV1 rfl (args := [vR 800]) (rest := [vI (nI j)]) rfl rfl rfl (s_209 (d := d + 7) hS) ?_
  refine g_if2 (i' := 89) (P := sn S 3 ≤ j) rfl rfl (g_geN (show nI j = nI j from (rfl : nI j = nI j)) (show S 3 = nI (sn S 3) from (hI.c3)) (by omega) (by omega)) (fun h1 => ?_) (fun h1 => ?_)
  · refine g_pure 2 (i' := 32) (lv' := [some (vR 800), some (vI (nI k)), z2, z3, some (vI (nI t)), some (vI (nI v + 1)), some (vI (nI j))]) (st' := []) rfl ?_
    refine gW_eq (lv' := [some (vR 800), some (vI (nI k)), z2, z3, some (vI (nI t)), some (vI (nI (v + 1))), some (vI (nI j))]) (st' := []) (by rw [(show (nI v + 1) = nI (v + 1) from ((g_add (rfl : nI v = nI v) (show (1 : Int32) = nI 1 from rfl))).trans (congrArg nI (by omega)))]) rfl rfl ?_
    exact o1 h1
  · refine g_pure 3 (i' := 70) (lv' := [some (vR 800), some (vI (nI k)), z2, z3, some (vI (nI t)), some (vI (nI v)), some (vI (nI j))]) (st' := [vI (nI v), vI (nI j), vR 800]) rfl ?_
    by_cases h2 : otP S j v
    · refine g_cV1 rfl (args := [vR 800, vI (nI j), vI (nI v)]) (rest := []) rfl rfl rfl (s_253o (d := d + 6) hI hS (by omega) (by omega) (by omega) (by assumption)) ?_
      have t3 := otN_lt hI (r := j) (by omega) v
      refine g_if1 (i' := 87) (P := otN S j v < 0) rfl rfl (g_ltN (show nI (otN S j v) = nI (otN S j v) from (rfl : nI (otN S j v) = nI (otN S j v))) (show 0 = nI 0 from (show (0 : Int32) = nI 0 from rfl)) (by omega) (by omega)) (fun h4 => absurd h4 (by omega)) (fun _ => ?_)
      exact o2 h1 h2
    · refine g_cV1 rfl (args := [vR 800, vI (nI j), vI (nI v)]) (rest := []) rfl rfl rfl (s_253x (d := d + 6) hI hS (by omega) (by omega) (by omega) (by assumption)) ?_
      refine g_if1 (i' := 87) (P := ((-1) : Int32) < 0) rfl rfl Iff.rfl (fun _ => ?_) (fun h5 => absurd (by decide) h5)
      refine g_pure 2 (i' := 63) (lv' := [some (vR 800), some (vI (nI k)), z2, z3, some (vI (nI t)), some (vI (nI v)), some (vI (nI j + 1))]) (st' := []) rfl ?_
      refine gW_eq (lv' := [some (vR 800), some (vI (nI k)), z2, z3, some (vI (nI t)), some (vI (nI v)), some (vI (nI (j + 1)))]) (st' := []) (by rw [(show (nI j + 1) = nI (j + 1) from ((g_add (rfl : nI j = nI j) (show (1 : Int32) = nI 1 from rfl))).trans (congrArg nI (by omega)))]) rfl rfl ?_
      exact o3 h1 h2

theorem b_276_72 {X : Nat × (Nat → Int32)} {d : Nat} {p : Nat → Nat} {sg : Mg} {Q : am_R → Prop} {B : Nat} {S : Nat → Int32} (hI : Inv B S) (hS : sg 801 = S) {k : Nat} {z2 : Option AV} {z3 : Option AV} {t : Nat} {v : Nat} {j : Nat} (u_k : k ≤ 7) (u_t : t ≤ 199) (u_v : v ≤ 5) (u_j : j ≤ 11) (q1 : v < sn S 0) (q2 : j < sn S 3) (hO : otP S j v)
    (o1 : ∀ s3 : Mg, s3 = mu sg 809 (6 * (t + sn S (177 + 3 * j + 2)) + (otN S j v)) 1 → gW X (d + 8) k_276 63 [some (vR 800), some (vI (nI k)), z2, z3, some (vI (nI t)), some (vI (nI v)), some (vI (nI (j + 1)))] [] p s3 Q) :
    gW X (d + 8) k_276 72 [some (vR 800), some (vI (nI k)), z2, z3, some (vI (nI t)), some (vI (nI v)), some (vI (nI j))] [] p sg Q := by
  have b0 := hI.b0; have b1 := hI.b1; have b2 := hI.b2; have b3 := hI.b3; have b4 := hI.b4; have b5 := hI.b5; have b6 := hI.b6; have b7 := hI.b7; have b8 := hI.b8; have b9 := hI.b9; have b14 := hI.b14
  refine g_pure 6 (i' := 78) (lv' := [some (vR 800), some (vI (nI k)), z2, z3, some (vI (nI t)), some (vI (nI v)), some (vI (nI j))]) (st' := [vI 2, vI (nI j), vR 800, vI (nI t), vR 809]) rfl ?_
  refine gW_eq (st' := [vI (nI 2), vI (nI j), vR 800, vI (nI t), vR 809]) rfl (by rw [(show (2 : Int32) = nI 2 from rfl)]) rfl ?_
  refine g_cV1 rfl (args := [vR 800, vI (nI j), vI (nI 2)]) (rest := [vI (nI t), vR 809]) rfl rfl rfl (s_241 (d := d + 7) hS (by omega) (by omega)) ?_
  have t1 := (hI.roa (k := j) (by omega)).2.2.1
  have t1b := t1.2
  refine g_pure 4 (i' := 83) (lv' := [some (vR 800), some (vI (nI k)), z2, z3, some (vI (nI t)), some (vI (nI v)), some (vI (nI j))]) (st' := [vI (nI v), vI (nI j), vR 800, vI (nI t + S (177 + 3 * j + 2)), vR 809]) rfl ?_
  refine gW_eq (lv' := [some (vR 800), some (vI (nI k)), z2, z3, some (vI (nI t)), some (vI (nI v)), some (vI (nI j))]) (st' := [vI (nI v), vI (nI j), vR 800, vI (nI (t + sn S (177 + 3 * j + 2))), vR 809]) rfl (by rw [(show (nI t + S (177 + 3 * j + 2)) = nI (t + sn S (177 + 3 * j + 2)) from ((g_add (rfl : nI t = nI t) t1.1)).trans (congrArg nI (by omega)))]) rfl ?_
  refine g_cV1 rfl (args := [vR 800, vI (nI j), vI (nI v)]) (rest := [vI (nI (t + sn S (177 + 3 * j + 2))), vR 809]) rfl rfl rfl (s_253o (d := d + 6) hI hS (by omega) (by omega) (by omega) hO) ?_
  have t2 := otN_lt hI (r := j) (by omega) v
  refine g_cS1 rfl (args := [vI (nI (t + sn S (177 + 3 * j + 2))), vI (nI (otN S j v))]) (rest := [vR 809]) rfl rfl rfl (s_277 (d := d + 7) (by omega) (by omega)) ?_
  refine g_pure 1 (i' := 86) (lv' := [some (vR 800), some (vI (nI k)), z2, z3, some (vI (nI t)), some (vI (nI v)), some (vI (nI j))]) (st' := [vI 1, vI (nI (6 * (t + sn S (177 + 3 * j + 2)) + (otN S j v))), vR 809]) rfl ?_
  refine g_bast3 rfl (g_A (a := 809) (kd := 3) (n := 1236) rfl (by decide)) (by decide) (show nI (6 * (t + sn S (177 + 3 * j + 2)) + (otN S j v)) = nI (6 * (t + sn S (177 + 3 * j + 2)) + (otN S j v)) from (rfl : nI (6 * (t + sn S (177 + 3 * j + 2)) + (otN S j v)) = nI (6 * (t + sn S (177 + 3 * j + 2)) + (otN S j v)))) (by omega) g_nar1 ?_
  refine g_setv (fun s3 es3 => ?_)
  have hSs3 : s3 801 = S := by rw [es3, mu_ne (by decide), hS]
  refine g_pure 2 (i' := 63) (lv' := [some (vR 800), some (vI (nI k)), z2, z3, some (vI (nI t)), some (vI (nI v)), some (vI (nI j + 1))]) (st' := []) rfl ?_
  refine gW_eq (lv' := [some (vR 800), some (vI (nI k)), z2, z3, some (vI (nI t)), some (vI (nI v)), some (vI (nI (j + 1)))]) (st' := []) (by rw [(show (nI j + 1) = nI (j + 1) from ((g_add (rfl : nI j = nI j) (show (1 : Int32) = nI 1 from rfl))).trans (congrArg nI (by omega)))]) rfl rfl ?_
  exact o1 s3 es3

/-- what the reference lays out, up to 200 dawns -/
def cnP (S : Nat → Int32) (k v0 T0 : Nat) (C : Nat → Bool) : Prop := ∀ t v, t ≤ 200 → v < sn S 0 → (C (6 * t + v) = true ↔ Rch S k v0 T0 (sn S 8 + t) v)
/-- one step of it, done at a time and in a village -/
def cnD (S : Nat → Int32) (k : Nat) (C : Nat → Bool) (t v m : Nat) : Prop := C (6 * (t + 1) + v) = true ∧ (bd S k v (sn S 8 + t) = false → ∀ r, r < m → otP S r v → C (6 * (t + sn S (177 + 3 * r + 2)) + otN S r v) = true)
def cnI (S : Nat → Int32) (k v0 f : Nat) (C : Nat → Bool) (t j : Nat) : Prop :=
  (∀ t v, v < 6 → C (6 * t + v) = true → Rch S k v0 (sn S 8 + f) (sn S 8 + t) v) ∧ C (6 * f + v0) = true ∧
  ∀ t' v', v' < sn S 0 → (t' < t ∨ (t' = t ∧ v' < j)) → C (6 * t' + v') = true → cnD S k C t' v' (sn S 3)
theorem cnD.up {S : Nat → Int32} {k t v m i : Nat} {C : Nat → Bool} (h : cnD S k C t v m) : cnD S k (upB C i) t v m := ⟨upB_old h.1, fun hb r hr ho => upB_old (h.2 hb r hr ho)⟩
/-- a write at a later time -/
theorem cnI.up {S : Nat → Int32} {k v0 f t j t2 v2 : Nat} {C : Nat → Bool} (h : cnI S k v0 f C t j) (h6 : sn S 0 ≤ 6) (ht : t < t2) (hv : v2 < 6) (hR : Rch S k v0 (sn S 8 + f) (sn S 8 + t2) v2) : cnI S k v0 f (upB C (6 * t2 + v2)) t j := by
  obtain ⟨h1, h2, h3⟩ := h
  refine ⟨fun t v hv hc => ?_, upB_old h2, fun t' v' hv' ht' hc => ?_⟩
  · by_cases e : 6 * t + v = 6 * t2 + v2
    · have e1 : t = t2 := by omega
      have e2 : v = v2 := by omega
      subst e1 e2
      exact hR
    · rw [upB_ne e] at hc
      exact h1 t v hv hc
  · rw [upB_ne (by omega)] at hc
    exact (h3 t' v' hv' ht' hc).up
theorem cnI.next {S : Nat → Int32} {k v0 f t : Nat} {C : Nat → Bool} (h : cnI S k v0 f C t (sn S 0)) : cnI S k v0 f C (t + 1) 0 := ⟨h.1, h.2.1, fun t' v' hv' ht' hc => h.2.2 t' v' hv' (by omega) hc⟩
theorem cnI.step {S : Nat → Int32} {k v0 f t j : Nat} {C : Nat → Bool} (h : cnI S k v0 f C t j) (hd : C (6 * t + j) = true → cnD S k C t j (sn S 3)) : cnI S k v0 f C t (j + 1) := by
  refine ⟨h.1, h.2.1, fun t' v' hv' ht' hc => ?_⟩
  by_cases e : t' = t ∧ v' = j
  · obtain ⟨rfl, rfl⟩ := e
    exact hd hc
  · exact h.2.2 t' v' hv' (by omega) hc
theorem cnI.done {B : Nat} {S : Nat → Int32} (hI : Inv B S) {k v0 f : Nat} {C : Nat → Bool} (h : cnI S k v0 f C 200 0) (hv0 : v0 < sn S 0) : cnP S k v0 (sn S 8 + f) C := by
  have b0 := hI.b0
  obtain ⟨h1, h2, h3⟩ := h
  intro t v ht hv
  refine ⟨h1 t v (by omega), fun hR => ?_⟩
  have key := hR (fun T v => v < sn S 0 ∧ sn S 8 ≤ T ∧ (T ≤ sn S 8 + 200 → C (6 * (T - sn S 8) + v) = true)) ⟨hv0, by omega, fun _ => by rw [show sn S 8 + f - sn S 8 = f by omega]; exact h2⟩ (fun T v g => ⟨g.1, by omega, fun hT => ?_⟩) (fun T v r g hb hr ho => ⟨otN_lt hI hr _, by omega, fun hT => ?_⟩)
  · have := key.2.2 (by omega)
    rw [show sn S 8 + t - sn S 8 = t by omega] at this
    exact this
  · have := (h3 (T - sn S 8) v g.1 (Or.inl (by omega)) (g.2.2 (by omega))).1
    rw [show T + 1 - sn S 8 = T - sn S 8 + 1 by omega]
    exact this
  · have hl := (hI.roa hr).2.2.2.1
    have := (h3 (T - sn S 8) v g.1 (Or.inl (by omega)) (g.2.2 (by omega))).2 (by rw [show sn S 8 + (T - sn S 8) = T by omega]; exact hb) r hr ho
    rw [show T + sn S (177 + 3 * r + 2) - sn S 8 = T - sn S 8 + sn S (177 + 3 * r + 2) by omega]
    exact this
/-- what spreading may write in the reference -/
def SR (sg s : Mg) : Prop := ∀ c, c ≠ 807 → c ≠ 809 → s c = sg c
theorem SR.rf (sg : Mg) : SR sg sg := fun _ _ _ => rfl
theorem SR.tr {a b c : Mg} (h : SR a b) (g : SR b c) : SR a c := fun x h1 h2 => (g x h1 h2).trans (h x h1 h2)
theorem SR.S {sg s : Mg} {S : Nat → Int32} (h : SR sg s) (hS : sg 801 = S) : s 801 = S := by rw [h 801 (by decide) (by decide)]; exact hS
/-- the roads from a village where one isn't barred -/
theorem l_276_63 {X : Nat × (Nat → Int32)} {d : Nat} {p : Nat → Nat} {sg : Mg} {B : Nat} {S : Nat → Int32} (hI : Inv B S) (hS : sg 801 = S) {Q : am_R → Prop} {k v0 f t v : Nat} {C : Nat → Bool} (hk : k < sn S 1) (hC : cnM 809 1236 sg C) (ht : t ≤ 199) (hv : v < sn S 0) (hP : cnI S k v0 f C t v) (hc : C (6 * t + v) = true) (h1 : C (6 * (t + 1) + v) = true) (hb : bd S k v (sn S 8 + t) = false) {z2 z3 : Option AV}
    (x : ∀ s C, SR sg s → cnM 809 1236 s C → cnI S k v0 f C t v → C (6 * t + v) = true → cnD S k C t v (sn S 3) → gW X (d + 8) k_276 32 [some (vR 800), some (vI (nI k)), z2, z3, some (vI (nI t)), some (vI (nI (v + 1))), some (vI (nI (sn S 3)))] [] p s Q) :
    gW X (d + 8) k_276 63 [some (vR 800), some (vI (nI k)), z2, z3, some (vI (nI t)), some (vI (nI v)), some (vI (nI 0))] [] p sg Q := by
  have b0 := hI.b0; have b1 := hI.b1; have b3 := hI.b3
  have key := g_upI (P := fun j => ∀ s C, SR sg s → cnM 809 1236 s C → cnI S k v0 f C t v → C (6 * t + v) = true → cnD S k C t v j → gW X (d + 8) k_276 63 [some (vR 800), some (vI (nI k)), z2, z3, some (vI (nI t)), some (vI (nI v)), some (vI (nI j))] [] p s Q) (I := fun _ => True) (n := sn S 3) (a := 0) (by omega) trivial ?_ ?_
  · exact key sg C (SR.rf _) hC hP hc ⟨h1, fun _ r hr => absurd hr (Nat.not_lt_zero _)⟩
  · intro j _ hj _ ih s C hs hC hP hc hD
    have ih := ih trivial
    refine b_276_63 hI (hs.S hS) (by omega) ht (by omega) (by omega) hv (fun h => by omega) (fun _ ho => ?_) (fun _ ho => ?_)
    · have hu := otN_lt hI hj v
      have hr := (hI.roa hj).2.2
      refine b_276_72 hI (hs.S hS) (by omega) ht (by omega) (by omega) hv hj ho (fun s6 e6 => ?_)
      have hR : Rch S k v0 (sn S 8 + f) (sn S 8 + (t + sn S (177 + 3 * j + 2))) (otN S j v) := by
        rw [← Nat.add_assoc]
        exact (hP.1 t v (by omega) hc).go hb hj ho
      refine ih s6 (upB C (6 * (t + sn S (177 + 3 * j + 2)) + otN S j v)) (hs.tr (fun c _ c2 => by rw [e6, mu_ne c2])) ?_ (hP.up b0 (by omega) (by omega) hR) (upB_old hc) ?_
      · rw [e6]
        exact hC.up
      · have h9 := hD.up (i := 6 * (t + sn S (177 + 3 * j + 2)) + otN S j v)
        refine ⟨h9.1, fun hb r hr ho => ?_⟩
        by_cases e : r = j
        · subst e
          exact upB_self
        · exact h9.2 hb r (by omega) ho
    · refine ih s C hs hC hP hc ⟨hD.1, fun hb r hr ho2 => ?_⟩
      by_cases e : r = j
      · subst e; exact absurd ho2 ho
      · exact hD.2 hb r (by omega) ho2
  · intro _ s C hs hC hP hc hD
    exact b_276_63 hI (hs.S hS) (by omega) ht (by omega) (by omega) hv (fun _ => x s C hs hC hP hc hD) (fun h => by omega) (fun h => by omega)

/-- the villages of one time -/
theorem l_276_32 {X : Nat × (Nat → Int32)} {d : Nat} {p : Nat → Nat} {sg : Mg} {B : Nat} {S : Nat → Int32} (hI : Inv B S) (hS : sg 801 = S) (hA : InvA S) {Q : am_R → Prop} {k v0 f t : Nat} {C : Nat → Bool} (hk : k < sn S 1) (hC : cnM 809 1236 sg C) (ht : t ≤ 199) (hP : cnI S k v0 f C t 0) {z2 z3 z6 : Option AV}
    (x : ∀ s C z5 z6, SR sg s → cnM 809 1236 s C → cnI S k v0 f C t (sn S 0) → gW X (d + 8) k_276 27 [some (vR 800), some (vI (nI k)), z2, z3, some (vI (nI (t + 1))), z5, z6] [] p s Q) :
    gW X (d + 8) k_276 32 [some (vR 800), some (vI (nI k)), z2, z3, some (vI (nI t)), some (vI (nI 0)), z6] [] p sg Q := by
  have b0 := hI.b0; have b1 := hI.b1; have b8 := hI.b8
  have key := g_upI (P := fun j => ∀ s C z6, SR sg s → cnM 809 1236 s C → cnI S k v0 f C t j → gW X (d + 8) k_276 32 [some (vR 800), some (vI (nI k)), z2, z3, some (vI (nI t)), some (vI (nI j)), z6] [] p s Q) (I := fun _ => True) (n := sn S 0) (a := 0) (by omega) trivial ?_ ?_
  · exact key sg C z6 (SR.rf _) hC hP
  · intro j _ hj _ ih s C z6 hs hC hP
    have ih := ih trivial
    refine b_276_32 hI (hs.S hS) hA hC (by omega) ht (by omega) hk (fun h => by omega) (fun _ hc s3 e3 s4 e4 hb => ?_) (fun _ hc s3 e3 s4 e4 hb => ?_) (fun _ hc => ?_)
    all_goals try
      have s34 : SR s s4 := by
        obtain ⟨g, e4⟩ := e4
        intro c c1 c2
        rw [e4, va_up_ne _ _ c1, e3, mu_ne c2]
      have hR : Rch S k v0 (sn S 8 + f) (sn S 8 + (t + 1)) j := (hP.1 t j (by omega) hc).wait
      have hC4 : cnM 809 1236 s4 (upB C (6 * (t + 1) + j)) := by
        obtain ⟨g, e4⟩ := e4
        refine cnM.eq (s := s3) ?_ (by rw [e4, va_up_ne _ _ (by decide)])
        rw [e3]
        exact hC.up
      have hP4 := hP.up b0 (Nat.lt_succ_self t) (show j < 6 by omega) hR
    · refine l_276_63 hI ((hs.tr s34).S hS) hk hC4 ht hj hP4 (upB_old hc) upB_self (by simpa using hb) (fun s' C' hs' hC' hP' hc' hD' => ?_)
      exact ih _ _ _ ((hs.tr s34).tr hs') hC' (hP'.step (fun _ => hD'))
    · exact ih _ _ _ (hs.tr s34) hC4 (hP4.step (fun _ => ⟨upB_self, fun hb2 => by rw [hb] at hb2; cases hb2⟩))
    · exact ih _ _ _ hs hC (hP.step (fun h => absurd h hc))
  · intro _ s C z6 hs hC hP
    exact b_276_32 hI (hs.S hS) hA hC (by omega) ht (by omega) hk (fun _ => x s C _ z6 hs hC hP) (fun h => by omega) (fun h => by omega) (fun h => by omega)
theorem s_276 {X : Nat × (Nat → Int32)} {d : Nat} {p : Nat → Nat} {sg : Mg} {B : Nat} {S : Nat → Int32} (hI : Inv B S) (hS : sg 801 = S) (hA : InvA S) {k v f : Nat} (hk : k < sn S 1) (hv : v < sn S 0) (hf : f ≤ 205) : gF X (d + 9) 276 [vR 800, vI (nI k), vI (nI v), vI (nI f)] p sg (fun r => ∃ s, (SR sg s ∧ ∃ C, cnM 809 1236 s C ∧ cnP S k v (sn S 8 + f) C) ∧ r = gR0 p s) := by
  have b0 := hI.b0; have b1 := hI.b1; have b8 := hI.b8
  refine g_in (cd := k_276) (nL := 7) (rc := 13) rfl (g_A (a := 800) (kd := 0) (n := 12) rfl (by decide)) (g_c1 rfl) (b_276_0 hI hS (by omega) (by omega) hf ?_)
  have key := g_upI (P := fun j => ∀ s, SR sg s → (∀ i, i < j → s 809 i = 0) → gW X (d + 8) k_276 2 [some (vR 800), some (vI (nI k)), some (vI (nI v)), some (vI (nI f)), some (vI (nI j)), none, none] [] p s (fun r => ∃ s, (SR sg s ∧ ∃ C, cnM 809 1236 s C ∧ cnP S k v (sn S 8 + f) C) ∧ r = gR0 p s)) (I := fun _ => True) (n := 1236) (a := 0) (by omega) trivial ?_ ?_
  · exact key sg (SR.rf _) (fun i hi => absurd hi (Nat.not_lt_zero _))
  · intro j _ hj _ ih s hs hz
    refine b_276_2 hI (hs.S hS) (by omega) (by omega) hf (by omega) (fun h => by omega) (fun h => by omega) (fun _ s4 e4 => ?_)
    refine ih trivial s4 (hs.tr (fun c _ c2 => by rw [e4, mu_ne c2])) (fun i hi => ?_)
    by_cases e : i = j
    · subst e; rw [e4, mu_self]
    · rw [e4, mu_idx e]; exact hz i (by omega)
  · intro _ s hs hz
    have hC0 : cnM 809 1236 s (fun _ => false) := fun i hi => hz i hi
    refine b_276_2 hI (hs.S hS) (by omega) (by omega) hf (by omega) (fun _ hfl s3 e3 => ?_) (fun _ hfl => ?_) (fun h => by omega)
    · have hs3 : SR sg s3 := hs.tr (fun c _ c2 => by rw [e3, mu_ne c2])
      have hC3 : cnM 809 1236 s3 (upB (fun _ => false) (6 * f + v)) := by rw [e3]; exact hC0.up
      have hP3 : cnI S k v f (upB (fun _ => false) (6 * f + v)) f 0 := by
        refine ⟨fun t u hu hc => ?_, upB_self, fun t' v' hv' ht' hc => ?_⟩
        · by_cases e : 6 * t + u = 6 * f + v
          · have e1 : t = f := by omega
            have e2 : u = v := by omega
            subst e1 e2
            exact Rch.base
          · rw [upB_ne e] at hc; cases hc
        · rw [upB_ne (by omega)] at hc; cases hc
      have key := g_upI (P := fun t => ∀ s C z5 z6, SR sg s → cnM 809 1236 s C → cnI S k v f C t 0 → gW X (d + 8) k_276 27 [some (vR 800), some (vI (nI k)), some (vI (nI v)), some (vI (nI f)), some (vI (nI t)), z5, z6] [] p s (fun r => ∃ s, (SR sg s ∧ ∃ C, cnM 809 1236 s C ∧ cnP S k v (sn S 8 + f) C) ∧ r = gR0 p s)) (I := fun _ => True) (n := 200) (a := f) hfl trivial ?_ ?_
      · exact key s3 _ none none hs3 hC3 hP3
      · intro t _ ht _ ih s C z5 z6 hs hC hP
        refine b_276_27 hI (hs.S hS) (by omega) (by omega) (fun h => by omega) (fun _ => ?_)
        exact l_276_32 hI (hs.S hS) hA hk hC (by omega) hP (fun s' C' z5 z6 hs' hC' hP' => ih trivial s' C' z5 z6 (hs.tr hs') hC' hP'.next)
      · intro _ s C z5 z6 hs hC hP
        exact b_276_27 hI (hs.S hS) (by omega) (by omega) (fun _ => ⟨s, ⟨hs, C, hC, hP.done hI hv⟩, rfl⟩) (fun h => by omega)
    · refine ⟨s, ⟨hs, _, hC0, fun t u ht hu => ⟨fun h => (by cases h), fun hR => ?_⟩⟩, rfl⟩
      have := hR.ge
      omega
