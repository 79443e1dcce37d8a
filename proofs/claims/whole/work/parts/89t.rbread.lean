/-! BREAD: the reference (made by wip/whole/gen89t.py) -/
/-- the tape is used up, in the reference -/
def ueM (tl : Nat) (sg s : Mg) : Prop := (∀ c, c ≠ 800 → s c = sg c) ∧ (∀ k, k ≠ 0 → k ≠ 8 → k ≠ 9 → k ≠ 10 → s 800 k = sg 800 k) ∧ s 800 0 = 0 ∧ s 800 8 = nI 0 ∧ s 800 10 = nI tl
theorem RM.ue {A : AS} {sg s : Mg} (hR : RM A sg) (h : ueM A.tl sg s) : RM (useA A) s := hR.tp (fun c hc => h.1 c (by omega)) (fun k hk => h.2.1 k (by omega) (by omega) (by omega) (by omega)) h.2.2.2.1 (fun i hi => absurd hi (Nat.not_lt_zero _))
theorem s_295 {X : Nat × (Nat → Int32)} {d : Nat} {p : Nat → Nat} {sg : Mg} {B : Nat} {A : AS} (hI : RI B A) (hR : RM A sg) : gF X (d + 4) 295 [vR 800] p sg (fun r => ∃ s, ueM A.tl sg s ∧ r = gRv p s (if clD A = true then 1 else 0)) := by
  have ht := hI.2.2.2.2.2.2.1
  have h6 := hR.2.2.2.2.2.1
  have h7 := hR.2.2.2.2.2.2.1
  refine g_in (cd := k_295) (nL := 3) (rc := 13) rfl (g_A (a := 800) (kd := 0) (n := 12) rfl (by decide)) (g_c1 rfl) ?_
  show gW X (d + 3) k_295 0 [some (vR 800), none, none] [] p sg _
  refine g_pure 1 (i' := 1) (lv' := [some (vR 800), none, none]) (st' := [vR 800]) rfl ?_
  refine g_cV0E (P := fun s => ueM A.tl sg s) (p' := p) rfl (args := [vR 800]) (rest := []) rfl rfl rfl ?_ (fun s h => ?_)
  · refine g_in (cd := k_187) (nL := 1) (rc := 13) rfl (g_A (a := 800) (kd := 0) (n := 12) rfl (by decide)) (g_c1 rfl) (b_187_0 (d := d + 1) ht h6 (fun s1 e1 s2 e2 s3 e3 s4 e4 => ⟨s4, ⟨fun c hc => ?_, fun k k0 k8 k9 k10 => ?_, ?_, ?_, ?_⟩, rfl⟩))
    · rw [e4, mu_ne hc, e3, mu_ne hc, e2, mu_ne hc, e1, mu_ne hc]
    · rw [e4, mu_idx k9, e3, mu_idx k8, e2, mu_idx k10, e1, mu_idx k0]
    · rw [e4, mu_idx (by decide), e3, mu_idx (by decide), e2, mu_idx (by decide), e1, mu_self]
    · rw [e4, mu_idx (by decide), e3, mu_self]; rfl
    · rw [e4, mu_idx (by decide), e3, mu_idx (by decide), e2, mu_self]
  have hS : s 801 = A.S := (h.1 801 (by decide)).trans hR.1
  have hT : ∀ i, i < A.tl → s 805 i = A.T i := fun i hi => by rw [h.1 805 (by decide)]; exact h7 i hi
  have key := g_upI (P := fun i => ∀ w : Bool, (w = true ↔ (A.tl % 3 = 0 ∧ ∀ j, j < i → okx (A.T j) (sn A.S 9))) → gW X (d + 3) k_295 13 [some (vR 800), some (vI (if w = true then 1 else 0)), some (vI (nI i))] [] p s (fun r => ∃ s, ueM A.tl sg s ∧ r = gRv p s (if clD A = true then 1 else 0))) (I := fun _ => True) (n := A.tl) (a := 0) (by omega) trivial ?_ ?_
  · refine b_295_2 hI.1 hS ht h.2.2.2.2 (fun hc => ?_) (fun hc => ?_)
    · refine g_pure 3 (i' := 13) (lv' := [some (vR 800), some (vI 0), some (vI 0)]) (st' := []) rfl ?_
      exact key false ⟨fun h => (by cases h), fun g => absurd g.1 hc⟩
    · refine g_pure 3 (i' := 13) (lv' := [some (vR 800), some (vI 1), some (vI 0)]) (st' := []) rfl ?_
      exact key true ⟨fun _ => ⟨hc, fun j hj => absurd hj (Nat.not_lt_zero _)⟩, fun _ => rfl⟩
  · intro i _ hi _ ih w hw
    have ih := ih trivial
    have no : ¬ (A.tl % 3 = 0 ∧ ∀ j, j < i + 1 → okx (A.T j) (sn A.S 9)) → gW X (d + 3) k_295 13 [some (vR 800), some (vI 0), some (vI (nI (i + 1)))] [] p s (fun r => ∃ s, ueM A.tl sg s ∧ r = gRv p s (if clD A = true then 1 else 0)) := fun hn => ih false ⟨fun h => (by cases h), fun g => absurd g hn⟩
    refine b_295_13 hI.1 hS ht h.2.2.2.2 (W := w = true) (by omega) (fun h => by omega) (fun _ h => no (fun g => h (hw.mpr ⟨g.1, fun j hj => g.2 j (by omega)⟩))) (fun _ _ h => no (fun g => h (by rw [hT i hi]; exact g.2 i (by omega)))) (fun _ h1 h2 => ih true ⟨fun _ => ⟨(hw.mp h1).1, fun j hj => ?_⟩, fun _ => rfl⟩)
    by_cases e : j = i
    · subst e; rw [← hT j hi]; exact h2
    · exact (hw.mp h1).2 j (by omega)
  · intro _ w hw
    refine b_295_13 hI.1 hS ht h.2.2.2.2 (W := w = true) (by omega) (fun _ => ⟨s, h, ?_⟩) (fun h => by omega) (fun h => by omega) (fun h => by omega)
    have : w = clD A := by
      rw [Bool.eq_iff_iff, hw]
      exact ⟨fun g => clD_t g, fun g => clP_of g⟩
    rw [this]
theorem rem_ok : ∀ D, D < 17 → ∀ a, a < D → ∀ b, b < D → ((nI a - nI b) + nI D) - ((nI a - nI b) + nI D) / nI D * nI D = nI ((a + D - b) % D) := by decide +kernel

theorem b_294_0 {X : Nat × (Nat → Int32)} {d : Nat} {p : Nat → Nat} {sg : Mg} {Q : am_R → Prop} {B : Nat} {S : Nat → Int32} (hI : Inv B S) (hS : sg 801 = S) {A : AS} (hRI : RI B A) (hRM : RM A sg)
    (o1 : ∀ s1 : Mg, (ueM A.tl sg s1) → (clD A = true) → gW X (d + 5) k_294 16 [some (vR 800), some (vI 0), some (vI 0), none, none] [] p s1 Q)
    (o2 : ∀ s1 : Mg, (ueM A.tl sg s1) → (¬ (clD A = true)) → ∀ s4 : Mg, s4 = mu s1 800 0 (nI 1) → Q (gRv p s4 0)) :
    gW X (d + 5) k_294 0 [some (vR 800), none, none, none, none] [] p sg Q := by
  have b0 := hI.b0; have b1 := hI.b1; have b2 := hI.b2; have b3 := hI.b3; have b4 := hI.b4; have b5 := hI.b5; have b6 := hI.b6; have b7 := hI.b7; have b8 := hI.b8; have b9 := hI.b9; have b14 := hI.b14
  refine g_pure 2 (i' := 2) (lv' := [some (vR 800), none, none, none, none]) (st' := [vR 800, vR 800]) rfl ?_
  refine g_cV1E rfl (args := [vR 800]) (rest := [vR 800]) rfl rfl rfl (s_295 (d := d + 1) hRI hRM) (fun s1 es1 => ?_)
  have hSs1 : s1 801 = S := (es1.1 801 (by decide)).trans hS
  refine g_if1 (i' := 6) (P := clD A = true) rfl rfl g_neB (fun h2 => ?_) (fun h2 => ?_)
  · refine g_pure 2 (i' := 8) (lv' := [some (vR 800), none, none, none, none]) (st' := [vI 1, vI 0, vR 800]) rfl ?_
    refine gW_eq (st' := [vI (nI 1), vI 0, vR 800]) rfl (by rw [(show (1 : Int32) = nI 1 from rfl)]) rfl ?_
    refine g_cV1 rfl (args := [vR 800, vI 0, vI (nI 1)]) (rest := []) rfl rfl rfl (s_227f (d := d + 4) (by omega)) ?_
    refine g_if1 (i' := 12) (P := 0 = 0) rfl rfl (g_eqN (show 0 = nI 0 from (show (0 : Int32) = nI 0 from rfl)) (show 0 = nI 0 from (show (0 : Int32) = nI 0 from rfl)) (by omega) (by omega)) (fun _ => ?_) (fun h3 => absurd (by omega) h3)
    refine g_pure 4 (i' := 16) (lv' := [some (vR 800), some (vI 0), some (vI 0), none, none]) (st' := []) rfl ?_
    exact o1 s1 es1 h2
  · refine g_pure 3 (i' := 8) (lv' := [some (vR 800), none, none, none, none]) (st' := [vI 1, vI 1, vR 800]) rfl ?_
    refine gW_eq (st' := [vI (nI 1), vI 1, vR 800]) rfl (by rw [(show (1 : Int32) = nI 1 from rfl)]) rfl ?_
    refine g_cV1 rfl (args := [vR 800, vI 1, vI (nI 1)]) (rest := []) rfl rfl rfl (s_227t (d := d + 4) (by omega)) ?_
    refine g_setv (fun s4 es4 => ?_)
    have hSs4 : s4 801 = S := by rw [es4, mu_ne (by decide), hSs1]
    refine g_if1 (i' := 12) (P := 1 = 0) rfl rfl (g_eqN (show 1 = nI 1 from (show (1 : Int32) = nI 1 from rfl)) (show 0 = nI 0 from (show (0 : Int32) = nI 0 from rfl)) (by omega) (by omega)) (fun h5 => absurd h5 (by omega)) (fun _ => ?_)
    refine g_pure 1 (i' := 11) (lv' := [some (vR 800), none, none, none, none]) (st' := [vI 0]) rfl ?_
    refine g_iret rfl ?_
    exact o2 s1 es1 h2 s4 es4

theorem b_294_16 {X : Nat × (Nat → Int32)} {d : Nat} {p : Nat → Nat} {sg : Mg} {Q : am_R → Prop} {B : Nat} {S : Nat → Int32} (hI : Inv B S) (hS : sg 801 = S) {w : Nat} {v : Nat} {z3 : Option AV} {z4 : Option AV} (u_w : w ≤ 63) (u_v : v ≤ 6)
    (o1 : (sn S 0 ≤ v) → Q (gRv p sg (nI w)))
    (o2 : (¬ (sn S 0 ≤ v)) → gW X (d + 5) k_294 24 [some (vR 800), some (vI (nI w)), some (vI (nI v)), some (vI 1), some (vI 0)] [] p sg Q) :
    gW X (d + 5) k_294 16 [some (vR 800), some (vI (nI w)), some (vI (nI v)), z3, z4] [] p sg Q := by
  have b0 := hI.b0; have b1 := hI.b1; have b2 := hI.b2; have b3 := hI.b3; have b4 := hI.b4; have b5 := hI.b5; have b6 := hI.b6; have b7 := hI.b7; have b8 := hI.b8; have b9 := hI.b9; have b14 := hI.b14
  refine g_pure 2 (i' := 18) (lv' := [some (vR 800), some (vI (nI w)), some (vI (nI v)), z3, z4]) (st' := [vR 800, vI (nI v)]) rfl ?_
  refine g_cV1 rfl (args := [vR 800]) (rest := [vI (nI v)]) rfl rfl rfl (s_195 (d := d + 4) hS) ?_
  refine g_if2 (i' := 78) (P := sn S 0 ≤ v) rfl rfl (g_geN (show nI v = nI v from (rfl : nI v = nI v)) (show S 0 = nI (sn S 0) from (hI.c0)) (by omega) (by omega)) (fun h1 => ?_) (fun h1 => ?_)
  · refine g_pure 1 (i' := 79) (lv' := [some (vR 800), some (vI (nI w)), some (vI (nI v)), z3, z4]) (st' := [vI (nI w)]) rfl ?_
    refine g_iret rfl ?_
    exact o1 h1
  · refine g_pure 4 (i' := 24) (lv' := [some (vR 800), some (vI (nI w)), some (vI (nI v)), some (vI 1), some (vI 0)]) (st' := []) rfl ?_
    exact o2 h1

theorem b_294_24 {X : Nat × (Nat → Int32)} {d : Nat} {p : Nat → Nat} {sg : Mg} {Q : am_R → Prop} {B : Nat} {S : Nat → Int32} (hI : Inv B S) (hS : sg 801 = S) {n : Nat} (u_n : n ≤ 400) (kn_800_10 : sg 800 10 = nI n) {x y z : Nat} {w : Nat} {v : Nat} {W : Prop} [Decidable W] {i : Nat} (u_w : w ≤ 63) (u_v : v ≤ 5) (u_i : i ≤ 400) (q1 : v < sn S 0) (h3 : i < n → i + 2 < n) (hx : i < n → sg 805 i = nI x) (hy : i < n → sg 805 (i + 1) = nI y) (hz : i < n → sg 805 (i + 2) = nI z) (u_x : x < sn S 9) (u_y : y < sn S 9) (u_z : z < sn S 9)
    (o1 : (n ≤ i) → gW X (d + 5) k_294 66 [some (vR 800), some (vI (nI w)), some (vI (nI v)), some (vI (if W then 1 else 0)), some (vI (nI i))] [] p sg Q)
    (o2 : (¬ (n ≤ i)) → (¬ W) → gW X (d + 5) k_294 66 [some (vR 800), some (vI (nI w)), some (vI (nI v)), some (vI (if W then 1 else 0)), some (vI (nI i))] [] p sg Q)
    (o3 : (¬ (n ≤ i)) → (W) → ¬ S 9 = 0)
    (o4 : (¬ (n ≤ i)) → (W) → (¬ (((nI (pgf S v x) - nI (pgf S v y)) + S 9) - ((nI (pgf S v x) - nI (pgf S v y)) + S 9) / S 9 * S 9) = nI z) → gW X (d + 5) k_294 24 [some (vR 800), some (vI (nI w)), some (vI (nI v)), some (vI 0), some (vI (nI (i + 3)))] [] p sg Q)
    (o5 : (¬ (n ≤ i)) → (W) → ((((nI (pgf S v x) - nI (pgf S v y)) + S 9) - ((nI (pgf S v x) - nI (pgf S v y)) + S 9) / S 9 * S 9) = nI z) → gW X (d + 5) k_294 24 [some (vR 800), some (vI (nI w)), some (vI (nI v)), some (vI 1), some (vI (nI (i + 3)))] [] p sg Q) :
    gW X (d + 5) k_294 24 [some (vR 800), some (vI (nI w)), some (vI (nI v)), some (vI (if W then 1 else 0)), some (vI (nI i))] [] p sg Q := by
  have b0 := hI.b0; have b1 := hI.b1; have b2 := hI.b2; have b3 := hI.b3; have b4 := hI.b4; have b5 := hI.b5; have b6 := hI.b6; have b7 := hI.b7; have b8 := hI.b8; have b9 := hI.b9; have b14 := hI.b14
  refine g_pure 2 (i' := 26) (lv' := [some (vR 800), some (vI (nI w)), some (vI (nI v)), some (vI (if W then 1 else 0)), some (vI (nI i))]) (st' := [vR 800, vI (nI i)]) rfl ?_
  refine g_getI rfl (g_A (a := 800) (kd := 0) (n := 12) rfl (by decide)) (show _ = nI n from kn_800_10) ?_
  refine g_if2 (i' := 66) (P := n ≤ i) rfl rfl (g_geN (show nI i = nI i from (rfl : nI i = nI i)) (show nI n = nI n from (rfl : nI n = nI n)) (by omega) (by omega)) (fun h1 => ?_) (fun h1 => ?_)
  · exact o1 h1
  · refine g_pure 1 (i' := 29) (lv' := [some (vR 800), some (vI (nI w)), some (vI (nI v)), some (vI (if W then 1 else 0)), some (vI (nI i))]) (st' := [vI (if W then 1 else 0)]) rfl ?_
    refine g_if1 (i' := 66) (P := ¬ W) rfl rfl g_eqB (fun h2 => ?_) (fun h2 => ?_)
    · exact o2 h1 h2
    · have h2 := Classical.not_not.mp h2
      refine g_pure 5 (i' := 35) (lv' := [some (vR 800), some (vI (nI w)), some (vI (nI v)), some (vI (if W then 1 else 0)), some (vI (nI i))]) (st' := [vI (nI i), vR 805, vI (nI v), vR 800]) rfl ?_
      refine g_bald rfl (by decide) (g_A (a := 805) (kd := 2) (n := 400) rfl (by decide)) (by decide) (show nI i = nI i from (rfl : nI i = nI i)) (by omega) (show _ = nI x from (hx (by omega))) ?_
      refine g_cV1 rfl (args := [vR 800, vI (nI v), vI (nI x)]) (rest := []) rfl rfl rfl (s_216 (d := d + 3) hI hS (by omega) (by omega)) ?_
      have t3 := (pgf_ok hI (v := v) (e := x) (by omega) (by omega)).1
      refine g_pure 7 (i' := 44) (lv' := [some (vR 800), some (vI (nI w)), some (vI (nI v)), some (vI (if W then 1 else 0)), some (vI (nI i))]) (st' := [vI (nI i + 1), vR 805, vI (nI v), vR 800, vI (nI (pgf S v x))]) rfl ?_
      refine gW_eq (lv' := [some (vR 800), some (vI (nI w)), some (vI (nI v)), some (vI (if W then 1 else 0)), some (vI (nI i))]) (st' := [vI (nI (i + 1)), vR 805, vI (nI v), vR 800, vI (nI (pgf S v x))]) rfl (by rw [(show (nI i + 1) = nI (i + 1) from ((g_add (rfl : nI i = nI i) (show (1 : Int32) = nI 1 from rfl))).trans (congrArg nI (by omega)))]) rfl ?_
      refine g_bald rfl (by decide) (g_A (a := 805) (kd := 2) (n := 400) rfl (by decide)) (by decide) (show nI (i + 1) = nI (i + 1) from (rfl : nI (i + 1) = nI (i + 1))) (by omega) (show _ = nI y from (hy (by omega))) ?_
      refine g_cV1 rfl (args := [vR 800, vI (nI v), vI (nI y)]) (rest := [vI (nI (pgf S v x))]) rfl rfl rfl (s_216 (d := d + 3) hI hS (by omega) (by omega)) ?_
      have t4 := (pgf_ok hI (v := v) (e := y) (by omega) (by omega)).1
      refine g_pure 2 (i' := 48) (lv' := [some (vR 800), some (vI (nI w)), some (vI (nI v)), some (vI (if W then 1 else 0)), some (vI (nI i))]) (st' := [vR 800, vI (nI (pgf S v x) - nI (pgf S v y))]) rfl ?_
      refine g_cV1 rfl (args := [vR 800]) (rest := [vI (nI (pgf S v x) - nI (pgf S v y))]) rfl rfl rfl (s_199 (d := d + 4) hS) ?_
      refine g_pure 2 (i' := 51) (lv' := [some (vR 800), some (vI (nI w)), some (vI (nI v)), some (vI (if W then 1 else 0)), some (vI (nI i))]) (st' := [vR 800, vI ((nI (pgf S v x) - nI (pgf S v y)) + S 9)]) rfl ?_
      refine g_cV1 rfl (args := [vR 800]) (rest := [vI ((nI (pgf S v x) - nI (pgf S v y)) + S 9)]) rfl rfl rfl (s_199 (d := d + 4) hS) ?_
      refine g_rem rfl (o3 h1 h2) ?_
      refine g_pure 5 (i' := 58) (lv' := [some (vR 800), some (vI (nI w)), some (vI (nI v)), some (vI (if W then 1 else 0)), some (vI (nI i))]) (st' := [vI (nI i + 2), vR 805, vI (((nI (pgf S v x) - nI (pgf S v y)) + S 9) - ((nI (pgf S v x) - nI (pgf S v y)) + S 9) / S 9 * S 9)]) rfl ?_
      refine gW_eq (lv' := [some (vR 800), some (vI (nI w)), some (vI (nI v)), some (vI (if W then 1 else 0)), some (vI (nI i))]) (st' := [vI (nI (i + 2)), vR 805, vI (((nI (pgf S v x) - nI (pgf S v y)) + S 9) - ((nI (pgf S v x) - nI (pgf S v y)) + S 9) / S 9 * S 9)]) rfl (by rw [(show (nI i + 2) = nI (i + 2) from ((g_add (rfl : nI i = nI i) (show (2 : Int32) = nI 2 from rfl))).trans (congrArg nI (by omega)))]) rfl ?_
      refine g_bald rfl (by decide) (g_A (a := 805) (kd := 2) (n := 400) rfl (by decide)) (by decide) (show nI (i + 2) = nI (i + 2) from (rfl : nI (i + 2) = nI (i + 2))) (by omega) (show _ = nI z from (hz (by omega))) ?_
      refine g_if2 (i' := 62) (P := ¬ (((nI (pgf S v x) - nI (pgf S v y)) + S 9) - ((nI (pgf S v x) - nI (pgf S v y)) + S 9) / S 9 * S 9) = nI z) rfl rfl Iff.rfl (fun h5 => ?_) (fun h5 => ?_)
      · refine g_pure 4 (i' := 24) (lv' := [some (vR 800), some (vI (nI w)), some (vI (nI v)), some (vI 0), some (vI (nI i + 3))]) (st' := []) rfl ?_
        refine gW_eq (lv' := [some (vR 800), some (vI (nI w)), some (vI (nI v)), some (vI 0), some (vI (nI (i + 3)))]) (st' := []) (by rw [(show (nI i + 3) = nI (i + 3) from ((g_add (rfl : nI i = nI i) (show (3 : Int32) = nI 3 from rfl))).trans (congrArg nI (by omega)))]) rfl rfl ?_
        exact o4 h1 h2 h5
      · have h5 := Classical.not_not.mp h5
        refine g_pure 5 (i' := 24) (lv' := [some (vR 800), some (vI (nI w)), some (vI (nI v)), some (vI 1), some (vI (nI i + 3))]) (st' := []) rfl ?_
        refine gW_eq (lv' := [some (vR 800), some (vI (nI w)), some (vI (nI v)), some (vI 1), some (vI (nI (i + 3)))]) (st' := []) (by rw [(show (nI i + 3) = nI (i + 3) from ((g_add (rfl : nI i = nI i) (show (3 : Int32) = nI 3 from rfl))).trans (congrArg nI (by omega)))]) rfl rfl ?_
        exact o5 h1 h2 h5

theorem b_294_66 {X : Nat × (Nat → Int32)} {d : Nat} {p : Nat → Nat} {sg : Mg} {Q : am_R → Prop} {B : Nat} {S : Nat → Int32} (hI : Inv B S) (hS : sg 801 = S) {w : Nat} {v : Nat} {W : Prop} [Decidable W] {z4 : Option AV} (u_w : w ≤ 63) (u_v : v ≤ 5)
    (o1 : (¬ W) → gW X (d + 5) k_294 16 [some (vR 800), some (vI (nI w ||| 0)), some (vI (nI (v + 1))), some (vI (if W then 1 else 0)), z4] [] p sg Q)
    (o2 : (W) → gW X (d + 5) k_294 16 [some (vR 800), some (vI (nI w ||| (1 <<< (nI v &&& 31)))), some (vI (nI (v + 1))), some (vI (if W then 1 else 0)), z4] [] p sg Q) :
    gW X (d + 5) k_294 66 [some (vR 800), some (vI (nI w)), some (vI (nI v)), some (vI (if W then 1 else 0)), z4] [] p sg Q := by
  have b0 := hI.b0; have b1 := hI.b1; have b2 := hI.b2; have b3 := hI.b3; have b4 := hI.b4; have b5 := hI.b5; have b6 := hI.b6; have b7 := hI.b7; have b8 := hI.b8; have b9 := hI.b9; have b14 := hI.b14
  refine g_pure 2 (i' := 68) (lv' := [some (vR 800), some (vI (nI w)), some (vI (nI v)), some (vI (if W then 1 else 0)), z4]) (st' := [vI (if W then 1 else 0), vI (nI w)]) rfl ?_
  refine g_if1 (i' := 73) (P := ¬ W) rfl rfl g_eqB (fun h1 => ?_) (fun h1 => ?_)
  · refine g_pure 5 (i' := 16) (lv' := [some (vR 800), some (vI (nI w ||| 0)), some (vI (nI v + 1)), some (vI (if W then 1 else 0)), z4]) (st' := []) rfl ?_
    refine gW_eq (lv' := [some (vR 800), some (vI (nI w ||| 0)), some (vI (nI (v + 1))), some (vI (if W then 1 else 0)), z4]) (st' := []) (by rw [(show (nI v + 1) = nI (v + 1) from ((g_add (rfl : nI v = nI v) (show (1 : Int32) = nI 1 from rfl))).trans (congrArg nI (by omega)))]) rfl rfl ?_
    exact o1 h1
  · have h1 := Classical.not_not.mp h1
    refine g_pure 8 (i' := 16) (lv' := [some (vR 800), some (vI (nI w ||| (1 <<< (nI v &&& 31)))), some (vI (nI v + 1)), some (vI (if W then 1 else 0)), z4]) (st' := []) rfl ?_
    refine gW_eq (lv' := [some (vR 800), some (vI (nI w ||| (1 <<< (nI v &&& 31)))), some (vI (nI (v + 1))), some (vI (if W then 1 else 0)), z4]) (st' := []) (by rw [(show (nI v + 1) = nI (v + 1) from ((g_add (rfl : nI v = nI v) (show (1 : Int32) = nI 1 from rfl))).trans (congrArg nI (by omega)))]) rfl rfl ?_
    exact o2 h1
