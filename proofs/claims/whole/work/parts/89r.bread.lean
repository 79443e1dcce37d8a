/-! BREAD: the class (made by wip/whole/gen89r.py) -/
theorem b_171_10 {X : Nat × (Nat → Int32)} {d : Nat} {p : Nat → Nat} {sg : Mg} {Q : am_R → Prop} {B : Nat} {S : Nat → Int32} (hI : Inv B S) (hL : cwL 250 sg S) (hD : cwD 200 sg S)
    (o1 : Q (gRx p sg 0)) :
    gW X (d + 4) k_171 10 [some (vR 0)] [] p sg Q := by
  have b0 := hI.b0; have b1 := hI.b1; have b2 := hI.b2; have b3 := hI.b3; have b4 := hI.b4; have b5 := hI.b5; have b6 := hI.b6; have b7 := hI.b7; have b8 := hI.b8; have b9 := hI.b9; have b14 := hI.b14
  refine g_thr' rfl rfl ?_
  exact o1

theorem b_1_2 {X : Nat × (Nat → Int32)} {d : Nat} {p : Nat → Nat} {sg : Mg} {Q : am_R → Prop} {B : Nat} {S : Nat → Int32} (hI : Inv B S) (hL : cwL 250 sg S) (hD : cwD 200 sg S) {n : Nat} (u_n : n ≤ 400) (kn_16_4 : sg 16 4 = nI n) {x y z : Nat} {v : Nat} {i : Nat} {z4 : Option AV} (u_v : v ≤ 5) (u_i : i ≤ 400) (q1 : v < sn S 0) (hx : i + 2 < n → sg 17 i = nI x) (hy : i + 2 < n → sg 17 (i + 1) = nI y) (hz : i + 2 < n → sg 17 (i + 2) = nI z) (u_x : x < sn S 9) (u_y : y < sn S 9) (u_z : z < sn S 9)
    (o1 : (n ≤ i + 2) → Q (gRv p sg 1))
    (o2 : (¬ (n ≤ i + 2)) → (((pgf S v x) + sn S 9 - (pgf S v y)) % sn S 9 = z) → gW X (d + 4) k_1 2 [some (vR 16), some (vR 200), some (vI (nI v)), some (vI (nI (i + 3))), some (vI (nI (pgf S v x) - nI (pgf S v y)))] [] p sg Q)
    (o3 : (¬ (n ≤ i + 2)) → (¬ (((pgf S v x) + sn S 9 - (pgf S v y)) % sn S 9 = z)) → Q (gRv p sg 0)) :
    gW X (d + 4) k_1 2 [some (vR 16), some (vR 200), some (vI (nI v)), some (vI (nI i)), z4] [] p sg Q := by
  have b0 := hI.b0; have b1 := hI.b1; have b2 := hI.b2; have b3 := hI.b3; have b4 := hI.b4; have b5 := hI.b5; have b6 := hI.b6; have b7 := hI.b7; have b8 := hI.b8; have b9 := hI.b9; have b14 := hI.b14
  refine g_pure 4 (i' := 6) (lv' := [some (vR 16), some (vR 200), some (vI (nI v)), some (vI (nI i)), z4]) (st' := [vR 16, vI (nI i + 2)]) rfl ?_
  refine gW_eq (lv' := [some (vR 16), some (vR 200), some (vI (nI v)), some (vI (nI i)), z4]) (st' := [vR 16, vI (nI (i + 2))]) rfl (by rw [(show (nI i + 2) = nI (i + 2) from ((g_add (rfl : nI i = nI i) (show (2 : Int32) = nI 2 from rfl))).trans (congrArg nI (by omega)))]) rfl ?_
  refine g_getI rfl (g_A (a := 16) (kd := 0) (n := 0) rfl (by decide)) (show _ = nI n from kn_16_4) ?_
  refine g_if2 (i' := 41) (P := n ≤ i + 2) rfl rfl (g_geN (show nI (i + 2) = nI (i + 2) from (rfl : nI (i + 2) = nI (i + 2))) (show nI n = nI n from (rfl : nI n = nI n)) (by omega) (by omega)) (fun h1 => ?_) (fun h1 => ?_)
  · refine g_pure 1 (i' := 42) (lv' := [some (vR 16), some (vR 200), some (vI (nI v)), some (vI (nI i)), z4]) (st' := [vI 1]) rfl ?_
    refine g_bret rfl g_nar1 ?_
    exact o1 h1
  · refine g_pure 5 (i' := 13) (lv' := [some (vR 16), some (vR 200), some (vI (nI v)), some (vI (nI i)), z4]) (st' := [vI (nI i), vR 17, vI (nI v), vR 200]) rfl ?_
    refine g_ald rfl (g_A (a := 17) (kd := 1) (n := 400) rfl (by decide)) (by decide) (show nI i = nI i from (rfl : nI i = nI i)) (by omega) (show _ = nI x from (hx (by omega))) ?_
    refine g_cV1 rfl (args := [vR 200, vI (nI v), vI (nI x)]) (rest := []) rfl rfl rfl (s_109 (d := d + 3) hI hL hD (by omega) (by omega)) ?_
    have t2 := (pgf_ok hI (v := v) (e := x) (by omega) (by omega)).1
    refine g_pure 7 (i' := 22) (lv' := [some (vR 16), some (vR 200), some (vI (nI v)), some (vI (nI i)), z4]) (st' := [vI (nI i + 1), vR 17, vI (nI v), vR 200, vI (nI (pgf S v x))]) rfl ?_
    refine gW_eq (lv' := [some (vR 16), some (vR 200), some (vI (nI v)), some (vI (nI i)), z4]) (st' := [vI (nI (i + 1)), vR 17, vI (nI v), vR 200, vI (nI (pgf S v x))]) rfl (by rw [(show (nI i + 1) = nI (i + 1) from ((g_add (rfl : nI i = nI i) (show (1 : Int32) = nI 1 from rfl))).trans (congrArg nI (by omega)))]) rfl ?_
    refine g_ald rfl (g_A (a := 17) (kd := 1) (n := 400) rfl (by decide)) (by decide) (show nI (i + 1) = nI (i + 1) from (rfl : nI (i + 1) = nI (i + 1))) (by omega) (show _ = nI y from (hy (by omega))) ?_
    refine g_cV1 rfl (args := [vR 200, vI (nI v), vI (nI y)]) (rest := [vI (nI (pgf S v x))]) rfl rfl rfl (s_109 (d := d + 3) hI hL hD (by omega) (by omega)) ?_
    have t3 := (pgf_ok hI (v := v) (e := y) (by omega) (by omega)).1
    refine g_pure 5 (i' := 29) (lv' := [some (vR 16), some (vR 200), some (vI (nI v)), some (vI (nI i)), some (vI (nI (pgf S v x) - nI (pgf S v y)))]) (st' := [vI (nI (pgf S v x) - nI (pgf S v y)), vR 202]) rfl ?_
    refine g_cV1 rfl (args := [vR 202, vI (nI (pgf S v x) - nI (pgf S v y))]) (rest := []) rfl rfl rfl (s_37d (d := d + 2) hI hL hD (by omega) (by omega)) ?_
    have t4 := Nat.mod_lt ((pgf S v x) + sn S 9 - (pgf S v y)) (y := sn S 9) (by omega)
    refine g_pure 5 (i' := 35) (lv' := [some (vR 16), some (vR 200), some (vI (nI v)), some (vI (nI i)), some (vI (nI (pgf S v x) - nI (pgf S v y)))]) (st' := [vI (nI i + 2), vR 17, vI (nI (((pgf S v x) + sn S 9 - (pgf S v y)) % sn S 9))]) rfl ?_
    refine gW_eq (lv' := [some (vR 16), some (vR 200), some (vI (nI v)), some (vI (nI i)), some (vI (nI (pgf S v x) - nI (pgf S v y)))]) (st' := [vI (nI (i + 2)), vR 17, vI (nI (((pgf S v x) + sn S 9 - (pgf S v y)) % sn S 9))]) rfl (by rw [(show (nI i + 2) = nI (i + 2) from ((g_add (rfl : nI i = nI i) (show (2 : Int32) = nI 2 from rfl))).trans (congrArg nI (by omega)))]) rfl ?_
    refine g_ald rfl (g_A (a := 17) (kd := 1) (n := 400) rfl (by decide)) (by decide) (show nI (i + 2) = nI (i + 2) from (rfl : nI (i + 2) = nI (i + 2))) (by omega) (show _ = nI z from (hz (by omega))) ?_
    refine g_if2 (i' := 39) (P := ((pgf S v x) + sn S 9 - (pgf S v y)) % sn S 9 = z) rfl rfl (g_eqN (show nI (((pgf S v x) + sn S 9 - (pgf S v y)) % sn S 9) = nI (((pgf S v x) + sn S 9 - (pgf S v y)) % sn S 9) from (rfl : nI (((pgf S v x) + sn S 9 - (pgf S v y)) % sn S 9) = nI (((pgf S v x) + sn S 9 - (pgf S v y)) % sn S 9))) (show nI z = nI z from (rfl : nI z = nI z)) (by omega) (by omega)) (fun h5 => ?_) (fun h5 => ?_)
    · refine g_pure 2 (i' := 2) (lv' := [some (vR 16), some (vR 200), some (vI (nI v)), some (vI (nI i + 3)), some (vI (nI (pgf S v x) - nI (pgf S v y)))]) (st' := []) rfl ?_
      refine gW_eq (lv' := [some (vR 16), some (vR 200), some (vI (nI v)), some (vI (nI (i + 3))), some (vI (nI (pgf S v x) - nI (pgf S v y)))]) (st' := []) (by rw [(show (nI i + 3) = nI (i + 3) from ((g_add (rfl : nI i = nI i) (show (3 : Int32) = nI 3 from rfl))).trans (congrArg nI (by omega)))]) rfl rfl ?_
      exact o2 h1 h5
    · refine g_pure 1 (i' := 38) (lv' := [some (vR 16), some (vR 200), some (vI (nI v)), some (vI (nI i)), some (vI (nI (pgf S v x) - nI (pgf S v y)))]) (st' := [vI 0]) rfl ?_
      refine g_bret rfl g_nar0 ?_
      exact o3 h1 h5

/-- clue i fits a village -/
def bvP (S : Nat → Int32) (T : Nat → Int32) (v i : Nat) : Prop := (pgf S v (T i).toNatClampNeg + sn S 9 - pgf S v (T (i + 1)).toNatClampNeg) % sn S 9 = (T (i + 2)).toNatClampNeg
noncomputable def fitB (S : Nat → Int32) (T : Nat → Int32) (tl v : Nat) : Bool := @decide (∀ k, k < tl / 3 → bvP S T v (3 * k)) (Classical.propDecidable _)
theorem fitB_t {S T : Nat → Int32} {tl v : Nat} (h : ∀ k, k < tl / 3 → bvP S T v (3 * k)) : fitB S T tl v = true := @decide_eq_true _ (Classical.propDecidable _) h
theorem fitB_f {S T : Nat → Int32} {tl v : Nat} (h : ¬ ∀ k, k < tl / 3 → bvP S T v (3 * k)) : fitB S T tl v = false := @decide_eq_false _ (Classical.propDecidable _) h
/-- the clues in the class -/
def clQ (S T : Nat → Int32) (tl : Nat) (s : Mg) : Prop := s 16 4 = nI tl ∧ tl ≤ 400 ∧ tl % 3 = 0 ∧ (∀ i, i < tl → s 17 i = T i) ∧ ∀ i, i < tl → okx (T i) (sn S 9)
theorem okx_at {x : Int32} {n : Nat} (hn : n < 2147483648) (h : okx x n) : x = nI x.toNatClampNeg ∧ x.toNatClampNeg < n := by
  obtain ⟨k, h1, h2⟩ := okx_of h
  subst h2
  rw [nI_clamp (by omega)]
  exact ⟨rfl, h1⟩
theorem s_1 {X : Nat × (Nat → Int32)} {d : Nat} {p : Nat → Nat} {sg : Mg} {B : Nat} {S : Nat → Int32} (hI : Inv B S) (hL : cwL 250 sg S) (hD : cwD 200 sg S) {T : Nat → Int32} {tl v : Nat} (hc : clQ S T tl sg) (hv : v < sn S 0) : gF X (d + 5) 1 [vR 16, vR 200, vI (nI v)] p sg (fun r => r = gRv p sg (if fitB S T tl v = true then 1 else 0)) := by
  have b0 := hI.b0; have b9 := hI.b9
  obtain ⟨c1, c2, c3, c4, c5⟩ := hc
  refine g_in (cd := k_1) (nL := 5) (rc := 1) rfl (g_A (a := 16) (kd := 0) (n := 0) rfl (by decide)) (g_c1 rfl) ?_
  show gW X (d + 4) k_1 0 [some (vR 16), some (vR 200), some (vI (nI v)), none, none] [] p sg _
  refine g_pure 2 (i' := 2) (lv' := [some (vR 16), some (vR 200), some (vI (nI v)), some (vI 0), none]) (st' := []) rfl ?_
  have key := g_upI (P := fun k => ∀ z4, gW X (d + 4) k_1 2 [some (vR 16), some (vR 200), some (vI (nI v)), some (vI (nI (3 * k))), z4] [] p sg (fun r => r = gRv p sg (if fitB S T tl v = true then 1 else 0))) (I := fun k => ∀ j, j < k → bvP S T v (3 * j)) (n := tl / 3) (a := 0) (by omega) (fun j hj => absurd hj (Nat.not_lt_zero _)) ?_ ?_
  · exact key none
  · intro k _ hk hin ih z4
    have o0 := okx_at (by omega) (c5 (3 * k) (by omega))
    have o1 := okx_at (by omega) (c5 (3 * k + 1) (by omega))
    have o2 := okx_at (by omega) (c5 (3 * k + 2) (by omega))
    refine b_1_2 hI hL hD c2 c1 (by omega) (by omega) hv (fun _ => (c4 _ (by omega)).trans o0.1) (fun _ => (c4 _ (by omega)).trans o1.1) (fun _ => (c4 _ (by omega)).trans o2.1) o0.2 o1.2 o2.2 (fun h => by omega) (fun _ h => ?_) (fun _ h => ?_)
    · rw [show 3 * k + 3 = 3 * (k + 1) by omega]
      refine ih (fun j hj => ?_) _
      by_cases e : j = k
      · subst e; exact h
      · exact hin j (by omega)
    · rw [fitB_f (fun g => h (g k hk))]
      rfl
  · intro hin z4
    have z : 0 < sn S 9 := by omega
    refine b_1_2 (x := 0) (y := 0) (z := 0) hI hL hD c2 c1 (by omega) (by omega) hv (fun h => by omega) (fun h => by omega) (fun h => by omega) z z z (fun _ => ?_) (fun h => by omega) (fun h => by omega)
    rw [fitB_t hin]
    rfl
theorem RC.tq {A : AS} {p : Nat → Nat} {sg s : Mg} {T : Nat → Int32} {tl : Nat} (hR : RC A p sg) (h1 : ∀ c, c ≠ 1 → c ≠ 2 → (c < 16 ∨ 20 < c) → s c = sg c) (h2 : s 1 5 = sg 1 5) (h3 : s 1 1 = nI tl) (h4 : ∀ i, i < tl → s 2 i = T i) : RC (A.tape T tl) p s := by
  obtain ⟨r1, r2, r3, r4, r5, r6, r7, r8, r9, r10⟩ := hR
  refine ⟨r1, r2.eqc (fun c c1 c2 c3 => h1 c (by omega) (by omega) (by omega)), ?_, fun i hi => cwL.eqc (r4 i hi) (fun c c1 c2 => h1 c (by omega) (by omega) (by omega)), ?_, fun hf => (r6 hf).eqc (fun c c1 c2 c3 => h1 c (by omega) (by omega) (by omega)), h3, h4, h2.trans r9, ?_⟩
  · rw [h1 0 (by decide) (by decide) (by decide)]; exact r3
  · rw [h1 0 (by decide) (by decide) (by decide)]; exact r5
  · rw [h1 23 (by decide) (by decide) (by decide)]; exact r10
theorem RC.cl {A : AS} {p : Nat → Nat} {sg s : Mg} (hR : RC A p sg) (h : clC A sg s) : RC (useA A) p s := hR.tq (fun c c1 c2 c3 => h.1 c c1 (by omega) (by omega)) (h.2.1 5 (by decide) (by decide)) h.2.2.1 (fun i hi => absurd hi (Nat.not_lt_zero _))

theorem b_170_6 {X : Nat × (Nat → Int32)} {d : Nat} {p : Nat → Nat} {sg : Mg} {Q : am_R → Prop} {B : Nat} {S : Nat → Int32} (hI : Inv B S) (hL : cwL 250 sg S) (hD : cwD 200 sg S) {T : Nat → Int32} {tl : Nat} (hc : clQ S T tl sg) {w : Nat} {v : Nat} (u_w : w ≤ 63) (u_v : v ≤ 6)
    (o1 : (sn S 0 ≤ v) → Q (gRv p sg (nI w)))
    (o2 : (¬ (sn S 0 ≤ v)) → (¬ (fitB S T tl v = true)) → gW X (d + 6) k_170 6 [some (vR 0), some (vI (nI w)), some (vI (nI (v + 1)))] [] p sg Q)
    (o3 : (¬ (sn S 0 ≤ v)) → ((fitB S T tl v = true)) → gW X (d + 6) k_170 6 [some (vR 0), some (vI (nI w ||| (1 <<< (nI v &&& 31)))), some (vI (nI (v + 1)))] [] p sg Q) :
    gW X (d + 6) k_170 6 [some (vR 0), some (vI (nI w)), some (vI (nI v))] [] p sg Q := by
  have b0 := hI.b0; have b1 := hI.b1; have b2 := hI.b2; have b3 := hI.b3; have b4 := hI.b4; have b5 := hI.b5; have b6 := hI.b6; have b7 := hI.b7; have b8 := hI.b8; have b9 := hI.b9; have b14 := hI.b14
  refine g_pure 6 (i' := 12) (lv' := [some (vR 0), some (vI (nI w)), some (vI (nI v))]) (st' := [vI 0, vR 203, vI (nI v)]) rfl ?_
  refine g_ald rfl (g_A (a := 203) (kd := 1) (n := 6) rfl (by decide)) (by decide) (show 0 = nI 0 from (show (0 : Int32) = nI 0 from rfl)) (by decide) (show _ = S 0 from (hD.cnt (by decide))) ?_
  refine g_if2 (i' := 29) (P := sn S 0 ≤ v) rfl rfl (g_geN (show nI v = nI v from (rfl : nI v = nI v)) (show S 0 = nI (sn S 0) from (hI.c0)) (by omega) (by omega)) (fun h1 => ?_) (fun h1 => ?_)
  · refine g_pure 1 (i' := 30) (lv' := [some (vR 0), some (vI (nI w)), some (vI (nI v))]) (st' := [vI (nI w)]) rfl ?_
    refine g_iret rfl ?_
    exact o1 h1
  · refine g_pure 5 (i' := 19) (lv' := [some (vR 0), some (vI (nI w)), some (vI (nI v))]) (st' := [vI (nI v), vR 200, vR 16]) rfl ?_
    refine g_cV1 rfl (args := [vR 16, vR 200, vI (nI v)]) (rest := []) rfl rfl rfl (s_1 (d := d + 1) hI hL hD hc (by omega)) ?_
    refine g_if1 (i' := 27) (P := ¬ (fitB S T tl v = true)) rfl rfl g_eqB (fun h2 => ?_) (fun h2 => ?_)
    · refine g_pure 2 (i' := 6) (lv' := [some (vR 0), some (vI (nI w)), some (vI (nI v + 1))]) (st' := []) rfl ?_
      refine gW_eq (lv' := [some (vR 0), some (vI (nI w)), some (vI (nI (v + 1)))]) (st' := []) (by rw [(show (nI v + 1) = nI (v + 1) from ((g_add (rfl : nI v = nI v) (show (1 : Int32) = nI 1 from rfl))).trans (congrArg nI (by omega)))]) rfl rfl ?_
      exact o2 h1 h2
    · have h2 := Classical.not_not.mp h2
      refine g_pure 8 (i' := 6) (lv' := [some (vR 0), some (vI (nI w ||| (1 <<< (nI v &&& 31)))), some (vI (nI v + 1))]) (st' := []) rfl ?_
      refine gW_eq (lv' := [some (vR 0), some (vI (nI w ||| (1 <<< (nI v &&& 31)))), some (vI (nI (v + 1)))]) (st' := []) (by rw [(show (nI v + 1) = nI (v + 1) from ((g_add (rfl : nI v = nI v) (show (1 : Int32) = nI 1 from rfl))).trans (congrArg nI (by omega)))]) rfl rfl ?_
      exact o3 h1 h2
