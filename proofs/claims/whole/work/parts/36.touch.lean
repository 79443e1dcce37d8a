/-! TOUCH, ROUND, WHEN, KNEW, EARLY, LOG, PERSON (made by wip/whole/gen36.py) -/
def tchP (S : Nat → Int32) (v w l k : Nat) : Bool := decide ((sn S (17 + 16 * v + k % sn S 9)) % w = (sn S (17 + 16 * v + (k + l) % sn S 9)) % w)
/-- the first below n, or -1 -/
def fstv (P : Nat → Bool) (n : Nat) : Int32 := if fnd P n 0 < n then nI (fnd P n 0) else -1
theorem fstv_at {P : Nat → Bool} {n k : Nat} (hk : k < n) (h : P k = true) (hb : ∀ i, i < k → P i = false) : fstv P n = nI k := by
  have e : fnd P n 0 = k := fnd_eq (Nat.zero_le _) (by omega) h (fun j _ hj => hb j hj)
  unfold fstv
  rw [e, if_pos hk]
theorem fstv_no {P : Nat → Bool} {n : Nat} (hb : ∀ i, i < n → P i = false) : fstv P n = -1 := by
  obtain ⟨h1, h2, h3, h4⟩ := fnd_spec P n 0
  have : ¬ fnd P n 0 < n := fun h => by
    have := h4 (by omega)
    rw [hb _ h] at this
    cases this
  unfold fstv
  rw [if_neg this]
theorem not_below {P : Nat → Bool} {k : Nat} (h : ∀ i, i < k → P i = false) (hk : P k = false) : ∀ i, i < k + 1 → P i = false := by
  intro i hi
  rcases Nat.lt_succ_iff_lt_or_eq.mp hi with h1 | h1
  · exact h i h1
  · rw [h1]; exact hk
theorem none_below {P : Nat → Bool} : ∀ i, i < 0 → P i = false := fun i hi => absurd hi (Nat.not_lt_zero i)
def rnd (S : Nat → Int32) (v w : Nat) : Nat := fnd (fun l => allb (tchP S v w l) (sn S 9)) (sn S 9 - 1) 1

theorem s_121r {X : Nat × (Nat → Int32)} {d : Nat} {p : Nat → Nat} {sg : Mg} {B : Nat} {S : Nat → Int32} (hI : Inv B S) (hL : cwL 250 sg S) (hD : cwD 200 sg S) {v : Nat} {k : Nat} {l : Nat} {w : Nat} (u_v : v ≤ 5) (u_k : k ≤ 15) (u_l : l ≤ 16) (u_w : w ≤ 7) (q1 : v < sn S 0) (q2 : 2 ≤ w) : gF X (d + 4) 121 [vR 200, vI (nI v), vI (nI k), vI (nI l), vI (nI w)] p sg (fun r => r = gRv p sg (if ((sn S (17 + 16 * v + (k % sn S 9))) % w) = ((sn S (17 + 16 * v + ((k + l) % sn S 9))) % w) then 1 else 0)) := by
  have b0 := hI.b0; have b1 := hI.b1; have b2 := hI.b2; have b3 := hI.b3; have b4 := hI.b4; have b5 := hI.b5; have b6 := hI.b6; have b7 := hI.b7; have b8 := hI.b8; have b9 := hI.b9; have b14 := hI.b14
  refine g_in (cd := k_121) (nL := 5) (rc := 11) rfl (g_A (a := 200) (kd := 0) (n := 10) rfl (by decide)) (g_c1 rfl) ?_
  show gW X (d + 3) k_121 0 [some (vR 200), some (vI (nI v)), some (vI (nI k)), some (vI (nI l)), some (vI (nI w))] [] p sg _
  refine g_pure 1 (i' := 1) (lv' := [some (vR 200), some (vI (nI v)), some (vI (nI k)), some (vI (nI l)), some (vI (nI w))]) (st' := [vI (nI w)]) rfl ?_
  refine g_if1 (i' := 19) (P := w ≤ 0) rfl rfl (g_leN (show nI w = nI w from (rfl : nI w = nI w)) (show 0 = nI 0 from (show (0 : Int32) = nI 0 from rfl)) (by omega) (by omega)) (fun h1 => absurd h1 (by omega)) (fun _ => ?_)
  refine g_pure 3 (i' := 5) (lv' := [some (vR 200), some (vI (nI v)), some (vI (nI k)), some (vI (nI l)), some (vI (nI w))]) (st' := [vI (nI k), vI (nI v), vR 200]) rfl ?_
  refine g_cV1 rfl (args := [vR 200, vI (nI v), vI (nI k)]) (rest := []) rfl rfl rfl (s_110 (d := d) hI hL hD (by omega) (by omega)) ?_
  have t2 := Nat.mod_lt (k) (y := sn S 9) (by omega)
  refine g_pure 1 (i' := 7) (lv' := [some (vR 200), some (vI (nI v)), some (vI (nI k)), some (vI (nI l)), some (vI (nI w))]) (st' := [vI (nI w), vI (S (17 + 16 * v + (k % sn S 9)))]) rfl ?_
  have t3 := hI.tbb (v := v) (q := k % sn S 9) (by omega) (by omega)
  refine g_rem rfl (g_nz (rfl : nI w = nI w) (by omega) (by omega)) ?_
  have t4 : ((sn S (17 + 16 * v + (k % sn S 9))) % w) < w := Nat.mod_lt _ (by omega)
  refine g_pure 5 (i' := 13) (lv' := [some (vR 200), some (vI (nI v)), some (vI (nI k)), some (vI (nI l)), some (vI (nI w))]) (st' := [vI (nI k + nI l), vI (nI v), vR 200, vI (S (17 + 16 * v + (k % sn S 9)) - S (17 + 16 * v + (k % sn S 9)) / nI w * nI w)]) rfl ?_
  refine gW_eq (lv' := [some (vR 200), some (vI (nI v)), some (vI (nI k)), some (vI (nI l)), some (vI (nI w))]) (st' := [vI (nI (k + l)), vI (nI v), vR 200, vI (nI ((sn S (17 + 16 * v + (k % sn S 9))) % w))]) rfl (by rw [(show (nI k + nI l) = nI (k + l) from ((g_add (rfl : nI k = nI k) (rfl : nI l = nI l))).trans (congrArg nI (by omega))), (show (S (17 + 16 * v + (k % sn S 9)) - S (17 + 16 * v + (k % sn S 9)) / nI w * nI w) = nI ((sn S (17 + 16 * v + (k % sn S 9))) % w) from (g_modN (hI.tb (by omega) (by omega)) (rfl : nI w = nI w) (by omega) (by omega) (by omega)))]) rfl ?_
  refine g_cV1 rfl (args := [vR 200, vI (nI v), vI (nI (k + l))]) (rest := [vI (nI ((sn S (17 + 16 * v + (k % sn S 9))) % w))]) rfl rfl rfl (s_110 (d := d) hI hL hD (by omega) (by omega)) ?_
  have t5 := Nat.mod_lt ((k + l)) (y := sn S 9) (by omega)
  refine g_pure 1 (i' := 15) (lv' := [some (vR 200), some (vI (nI v)), some (vI (nI k)), some (vI (nI l)), some (vI (nI w))]) (st' := [vI (nI w), vI (S (17 + 16 * v + ((k + l) % sn S 9))), vI (nI ((sn S (17 + 16 * v + (k % sn S 9))) % w))]) rfl ?_
  have t6 := hI.tbb (v := v) (q := (k + l) % sn S 9) (by omega) (by omega)
  refine g_rem rfl (g_nz (rfl : nI w = nI w) (by omega) (by omega)) ?_
  have t7 : ((sn S (17 + 16 * v + ((k + l) % sn S 9))) % w) < w := Nat.mod_lt _ (by omega)
  refine gW_eq (lv' := [some (vR 200), some (vI (nI v)), some (vI (nI k)), some (vI (nI l)), some (vI (nI w))]) (st' := [vI (nI ((sn S (17 + 16 * v + ((k + l) % sn S 9))) % w)), vI (nI ((sn S (17 + 16 * v + (k % sn S 9))) % w))]) rfl (by rw [(show (S (17 + 16 * v + ((k + l) % sn S 9)) - S (17 + 16 * v + ((k + l) % sn S 9)) / nI w * nI w) = nI ((sn S (17 + 16 * v + ((k + l) % sn S 9))) % w) from (g_modN (hI.tb (by omega) (by omega)) (rfl : nI w = nI w) (by omega) (by omega) (by omega)))]) rfl ?_
  refine g_if2 (i' := 19) (P := ¬ ((sn S (17 + 16 * v + (k % sn S 9))) % w) = ((sn S (17 + 16 * v + ((k + l) % sn S 9))) % w)) rfl rfl (g_neN (show nI ((sn S (17 + 16 * v + (k % sn S 9))) % w) = nI ((sn S (17 + 16 * v + (k % sn S 9))) % w) from (rfl : nI ((sn S (17 + 16 * v + (k % sn S 9))) % w) = nI ((sn S (17 + 16 * v + (k % sn S 9))) % w))) (show nI ((sn S (17 + 16 * v + ((k + l) % sn S 9))) % w) = nI ((sn S (17 + 16 * v + ((k + l) % sn S 9))) % w) from (rfl : nI ((sn S (17 + 16 * v + ((k + l) % sn S 9))) % w) = nI ((sn S (17 + 16 * v + ((k + l) % sn S 9))) % w))) (by omega) (by omega)) (fun h8 => ?_) (fun h8 => ?_)
  · refine g_pure 1 (i' := 20) (lv' := [some (vR 200), some (vI (nI v)), some (vI (nI k)), some (vI (nI l)), some (vI (nI w))]) (st' := [vI 0]) rfl ?_
    refine g_bret rfl g_nar0 ?_
    exact (congrArg (gRv p sg) (if_neg h8).symm)
  · have h8 := Classical.not_not.mp h8
    refine g_pure 2 (i' := 20) (lv' := [some (vR 200), some (vI (nI v)), some (vI (nI k)), some (vI (nI l)), some (vI (nI w))]) (st' := [vI 1]) rfl ?_
    refine g_bret rfl g_nar1 ?_
    exact (congrArg (gRv p sg) (if_pos h8).symm)

theorem s_121 {X : Nat × (Nat → Int32)} {d : Nat} {p : Nat → Nat} {sg : Mg} {B : Nat} {S : Nat → Int32} (hI : Inv B S) (hL : cwL 250 sg S) (hD : cwD 200 sg S) {v k l w : Nat} (hv : v < sn S 0) (hk : k ≤ 15) (hl : l ≤ 16) (h2 : 2 ≤ w) (h7 : w ≤ 7) : gF X (d + 4) 121 [vR 200, vI (nI v), vI (nI k), vI (nI l), vI (nI w)] p sg (fun r => r = gRv p sg (if tchP S v w l k = true then 1 else 0)) := by
  have b0 := hI.b0
  refine gF_mono (s_121r hI hL hD (by omega) hk hl h7 hv h2) (fun r hr => hr.trans (congrArg (gRv p sg) (g_ite ?_)))
  unfold tchP
  rw [decide_eq_true_iff]

theorem b_122_0 {X : Nat × (Nat → Int32)} {d : Nat} {p : Nat → Nat} {sg : Mg} {Q : am_R → Prop} {B : Nat} {S : Nat → Int32} (hI : Inv B S) (hL : cwL 250 sg S) (hD : cwD 200 sg S) {v : Nat} {w : Nat} (u_v : v ≤ 5) (u_w : w ≤ 7) (q1 : v < sn S 0) (q2 : 2 ≤ w)
    (o1 : gW X (d + 4) k_122 4 [some (vR 200), some (vI (nI v)), some (vI (nI w)), some (vI 0), some (vI 0)] [] p sg Q) :
    gW X (d + 4) k_122 0 [some (vR 200), some (vI (nI v)), some (vI (nI w)), none, none] [] p sg Q := by
  have b0 := hI.b0; have b1 := hI.b1; have b2 := hI.b2; have b3 := hI.b3; have b4 := hI.b4; have b5 := hI.b5; have b6 := hI.b6; have b7 := hI.b7; have b8 := hI.b8; have b9 := hI.b9; have b14 := hI.b14
  refine g_pure 4 (i' := 4) (lv' := [some (vR 200), some (vI (nI v)), some (vI (nI w)), some (vI 0), some (vI 0)]) (st' := []) rfl ?_
  exact o1

theorem b_122_4 {X : Nat × (Nat → Int32)} {d : Nat} {p : Nat → Nat} {sg : Mg} {Q : am_R → Prop} {B : Nat} {S : Nat → Int32} (hI : Inv B S) (hL : cwL 250 sg S) (hD : cwD 200 sg S) {v : Nat} {w : Nat} {c : Nat} {k : Nat} (u_v : v ≤ 5) (u_w : w ≤ 7) (u_c : c ≤ 16) (u_k : k ≤ 16) (q1 : v < sn S 0) (q2 : 2 ≤ w)
    (o1 : (sn S 9 ≤ k) → Q (gRv p sg (nI c)))
    (o2 : (¬ (sn S 9 ≤ k)) → (¬ (tchP S v w 1 k = true)) → gW X (d + 4) k_122 4 [some (vR 200), some (vI (nI v)), some (vI (nI w)), some (vI (nI c)), some (vI (nI (k + 1)))] [] p sg Q)
    (o3 : (¬ (sn S 9 ≤ k)) → ((tchP S v w 1 k = true)) → gW X (d + 4) k_122 4 [some (vR 200), some (vI (nI v)), some (vI (nI w)), some (vI (nI (c + 1))), some (vI (nI (k + 1)))] [] p sg Q) :
    gW X (d + 4) k_122 4 [some (vR 200), some (vI (nI v)), some (vI (nI w)), some (vI (nI c)), some (vI (nI k))] [] p sg Q := by
  have b0 := hI.b0; have b1 := hI.b1; have b2 := hI.b2; have b3 := hI.b3; have b4 := hI.b4; have b5 := hI.b5; have b6 := hI.b6; have b7 := hI.b7; have b8 := hI.b8; have b9 := hI.b9; have b14 := hI.b14
  refine g_pure 3 (i' := 7) (lv' := [some (vR 200), some (vI (nI v)), some (vI (nI w)), some (vI (nI c)), some (vI (nI k))]) (st' := [vR 202, vI (nI k)]) rfl ?_
  refine g_getI rfl (g_A (a := 202) (kd := 0) (n := 3) rfl (by decide)) (show _ = S 9 from hD.f5) ?_
  refine g_if2 (i' := 19) (P := sn S 9 ≤ k) rfl rfl (g_geN (show nI k = nI k from (rfl : nI k = nI k)) (show S 9 = nI (sn S 9) from (hI.c9)) (by omega) (by omega)) (fun h1 => ?_) (fun h1 => ?_)
  · refine g_pure 1 (i' := 20) (lv' := [some (vR 200), some (vI (nI v)), some (vI (nI w)), some (vI (nI c)), some (vI (nI k))]) (st' := [vI (nI c)]) rfl ?_
    refine g_iret rfl ?_
    exact o1 h1
  · refine g_pure 5 (i' := 14) (lv' := [some (vR 200), some (vI (nI v)), some (vI (nI w)), some (vI (nI c)), some (vI (nI k))]) (st' := [vI (nI w), vI 1, vI (nI k), vI (nI v), vR 200]) rfl ?_
    refine gW_eq (st' := [vI (nI w), vI (nI 1), vI (nI k), vI (nI v), vR 200]) rfl (by rw [(show (1 : Int32) = nI 1 from rfl)]) rfl ?_
    refine g_cV1 rfl (args := [vR 200, vI (nI v), vI (nI k), vI (nI 1), vI (nI w)]) (rest := []) rfl rfl rfl (s_121 (d := d) hI hL hD (by omega) (by omega) (by omega) (by omega) (by omega)) ?_
    refine g_if1 (i' := 17) (P := ¬ (tchP S v w 1 k = true)) rfl rfl g_eqB (fun h2 => ?_) (fun h2 => ?_)
    · refine g_pure 2 (i' := 4) (lv' := [some (vR 200), some (vI (nI v)), some (vI (nI w)), some (vI (nI c)), some (vI (nI k + 1))]) (st' := []) rfl ?_
      refine gW_eq (lv' := [some (vR 200), some (vI (nI v)), some (vI (nI w)), some (vI (nI c)), some (vI (nI (k + 1)))]) (st' := []) (by rw [(show (nI k + 1) = nI (k + 1) from ((g_add (rfl : nI k = nI k) (show (1 : Int32) = nI 1 from rfl))).trans (congrArg nI (by omega)))]) rfl rfl ?_
      exact o2 h1 h2
    · have h2 := Classical.not_not.mp h2
      refine g_pure 3 (i' := 4) (lv' := [some (vR 200), some (vI (nI v)), some (vI (nI w)), some (vI (nI c + 1)), some (vI (nI k + 1))]) (st' := []) rfl ?_
      refine gW_eq (lv' := [some (vR 200), some (vI (nI v)), some (vI (nI w)), some (vI (nI (c + 1))), some (vI (nI (k + 1)))]) (st' := []) (by rw [(show (nI c + 1) = nI (c + 1) from ((g_add (rfl : nI c = nI c) (show (1 : Int32) = nI 1 from rfl))).trans (congrArg nI (by omega))), (show (nI k + 1) = nI (k + 1) from ((g_add (rfl : nI k = nI k) (show (1 : Int32) = nI 1 from rfl))).trans (congrArg nI (by omega)))]) rfl rfl ?_
      exact o3 h1 h2

theorem l_122_4 {X : Nat × (Nat → Int32)} {d : Nat} {p : Nat → Nat} {sg : Mg} {Q : am_R → Prop} {B : Nat} {S : Nat → Int32} (hI : Inv B S) (hL : cwL 250 sg S) (hD : cwD 200 sg S) {v : Nat} {w : Nat} (u_v : v ≤ 5) (u_w : w ≤ 7) (q1 : v < sn S 0) (q2 : 2 ≤ w) 
    (x1 : Q (gRv p sg (nI (cnt (tchP S v w 1) (sn S 9))))) :
    gW X (d + 4) k_122 4 [some (vR 200), some (vI (nI v)), some (vI (nI w)), some (vI (nI (cnt (tchP S v w 1) 0))), some (vI (nI 0))] [] p sg Q := by
  have b0 := hI.b0; have b1 := hI.b1; have b2 := hI.b2; have b3 := hI.b3; have b4 := hI.b4; have b5 := hI.b5; have b6 := hI.b6; have b7 := hI.b7; have b8 := hI.b8; have b9 := hI.b9; have b14 := hI.b14
  refine g_upI (P := fun k => gW X (d + 4) k_122 4 [some (vR 200), some (vI (nI v)), some (vI (nI w)), some (vI (nI (cnt (tchP S v w 1) k))), some (vI (nI k))] [] p sg Q) (I := fun k => True) (n := sn S 9) (a := 0) (by omega) trivial (fun k hj0 hj hi ih => ?_) (fun hi => ?_)
  · have ih : True → gW X (d + 4) k_122 4 [some (vR 200), some (vI (nI v)), some (vI (nI w)), some (vI (nI (cnt (tchP S v w 1) (k + 1)))), some (vI (nI (k + 1)))] [] p sg Q := ih
    have := cnt_le (tchP S v w 1) k
    exact b_122_4 hI hL hD (by omega) (by omega) (by omega) (by omega) (by omega) (by omega) (fun h1 => by omega) (fun h1 h2 => by rw [show ((nI (cnt (tchP S v w 1) k)) : Int32) = (nI (cnt (tchP S v w 1) (k + 1))) from by simp [cnt, *]]; exact ih trivial) (fun h1 h2 => by rw [show ((nI ((cnt (tchP S v w 1) k) + 1)) : Int32) = (nI (cnt (tchP S v w 1) (k + 1))) from by simp [cnt, *]]; exact ih trivial)
  · have := cnt_le (tchP S v w 1) (sn S 9)
    exact b_122_4 hI hL hD (by omega) (by omega) (by omega) (by omega) (by omega) (by omega) (fun _ => x1) (fun h1 h2 => by omega) (fun h1 h2 => by omega)

theorem s_122 {X : Nat × (Nat → Int32)} {d : Nat} {p : Nat → Nat} {sg : Mg} {B : Nat} {S : Nat → Int32} (hI : Inv B S) (hL : cwL 250 sg S) (hD : cwD 200 sg S) {v w : Nat} (hv : v < sn S 0) (h2 : 2 ≤ w) (h7 : w ≤ 7) : gF X (d + 5) 122 [vR 200, vI (nI v), vI (nI w)] p sg (fun r => r = gRv p sg (nI (cnt (tchP S v w 1) (sn S 9)))) := by
  have b0 := hI.b0
  exact g_in (cd := k_122) (nL := 5) (rc := 11) rfl (g_A (a := 200) (kd := 0) (n := 10) rfl (by decide)) (g_c1 rfl) (b_122_0 hI hL hD (by omega) h7 hv h2 (l_122_4 hI hL hD (by omega) h7 hv h2 rfl))

theorem b_120_0 {X : Nat × (Nat → Int32)} {d : Nat} {p : Nat → Nat} {sg : Mg} {Q : am_R → Prop} {B : Nat} {S : Nat → Int32} (hI : Inv B S) (hL : cwL 250 sg S) (hD : cwD 200 sg S) {v : Nat} {w : Nat} (u_v : v ≤ 5) (u_w : w ≤ 7) (q1 : v < sn S 0) (q2 : 2 ≤ w)
    (o1 : gW X (d + 4) k_120 2 [some (vR 200), some (vI (nI v)), some (vI (nI w)), some (vI 0)] [] p sg Q) :
    gW X (d + 4) k_120 0 [some (vR 200), some (vI (nI v)), some (vI (nI w)), none] [] p sg Q := by
  have b0 := hI.b0; have b1 := hI.b1; have b2 := hI.b2; have b3 := hI.b3; have b4 := hI.b4; have b5 := hI.b5; have b6 := hI.b6; have b7 := hI.b7; have b8 := hI.b8; have b9 := hI.b9; have b14 := hI.b14
  refine g_pure 2 (i' := 2) (lv' := [some (vR 200), some (vI (nI v)), some (vI (nI w)), some (vI 0)]) (st' := []) rfl ?_
  exact o1

theorem b_120_2 {X : Nat × (Nat → Int32)} {d : Nat} {p : Nat → Nat} {sg : Mg} {Q : am_R → Prop} {B : Nat} {S : Nat → Int32} (hI : Inv B S) (hL : cwL 250 sg S) (hD : cwD 200 sg S) {v : Nat} {w : Nat} {k : Nat} (u_v : v ≤ 5) (u_w : w ≤ 7) (u_k : k ≤ 16) (q1 : v < sn S 0) (q2 : 2 ≤ w)
    (o1 : (sn S 9 ≤ k) → Q (gRv p sg (-1)))
    (o2 : (¬ (sn S 9 ≤ k)) → (¬ (tchP S v w 1 k = true)) → gW X (d + 4) k_120 2 [some (vR 200), some (vI (nI v)), some (vI (nI w)), some (vI (nI (k + 1)))] [] p sg Q)
    (o3 : (¬ (sn S 9 ≤ k)) → ((tchP S v w 1 k = true)) → Q (gRv p sg (nI k))) :
    gW X (d + 4) k_120 2 [some (vR 200), some (vI (nI v)), some (vI (nI w)), some (vI (nI k))] [] p sg Q := by
  have b0 := hI.b0; have b1 := hI.b1; have b2 := hI.b2; have b3 := hI.b3; have b4 := hI.b4; have b5 := hI.b5; have b6 := hI.b6; have b7 := hI.b7; have b8 := hI.b8; have b9 := hI.b9; have b14 := hI.b14
  refine g_pure 3 (i' := 5) (lv' := [some (vR 200), some (vI (nI v)), some (vI (nI w)), some (vI (nI k))]) (st' := [vR 202, vI (nI k)]) rfl ?_
  refine g_getI rfl (g_A (a := 202) (kd := 0) (n := 3) rfl (by decide)) (show _ = S 9 from hD.f5) ?_
  refine g_if2 (i' := 18) (P := sn S 9 ≤ k) rfl rfl (g_geN (show nI k = nI k from (rfl : nI k = nI k)) (show S 9 = nI (sn S 9) from (hI.c9)) (by omega) (by omega)) (fun h1 => ?_) (fun h1 => ?_)
  · refine g_pure 1 (i' := 19) (lv' := [some (vR 200), some (vI (nI v)), some (vI (nI w)), some (vI (nI k))]) (st' := [vI (-1)]) rfl ?_
    refine g_iret rfl ?_
    exact o1 h1
  · refine g_pure 5 (i' := 12) (lv' := [some (vR 200), some (vI (nI v)), some (vI (nI w)), some (vI (nI k))]) (st' := [vI (nI w), vI 1, vI (nI k), vI (nI v), vR 200]) rfl ?_
    refine gW_eq (st' := [vI (nI w), vI (nI 1), vI (nI k), vI (nI v), vR 200]) rfl (by rw [(show (1 : Int32) = nI 1 from rfl)]) rfl ?_
    refine g_cV1 rfl (args := [vR 200, vI (nI v), vI (nI k), vI (nI 1), vI (nI w)]) (rest := []) rfl rfl rfl (s_121 (d := d) hI hL hD (by omega) (by omega) (by omega) (by omega) (by omega)) ?_
    refine g_if1 (i' := 16) (P := ¬ (tchP S v w 1 k = true)) rfl rfl g_eqB (fun h2 => ?_) (fun h2 => ?_)
    · refine g_pure 2 (i' := 2) (lv' := [some (vR 200), some (vI (nI v)), some (vI (nI w)), some (vI (nI k + 1))]) (st' := []) rfl ?_
      refine gW_eq (lv' := [some (vR 200), some (vI (nI v)), some (vI (nI w)), some (vI (nI (k + 1)))]) (st' := []) (by rw [(show (nI k + 1) = nI (k + 1) from ((g_add (rfl : nI k = nI k) (show (1 : Int32) = nI 1 from rfl))).trans (congrArg nI (by omega)))]) rfl rfl ?_
      exact o2 h1 h2
    · have h2 := Classical.not_not.mp h2
      refine g_pure 1 (i' := 15) (lv' := [some (vR 200), some (vI (nI v)), some (vI (nI w)), some (vI (nI k))]) (st' := [vI (nI k)]) rfl ?_
      refine g_iret rfl ?_
      exact o3 h1 h2

theorem l_120_2 {X : Nat × (Nat → Int32)} {d : Nat} {p : Nat → Nat} {sg : Mg} {Q : am_R → Prop} {B : Nat} {S : Nat → Int32} (hI : Inv B S) (hL : cwL 250 sg S) (hD : cwD 200 sg S) {v : Nat} {w : Nat} (u_v : v ≤ 5) (u_w : w ≤ 7) (q1 : v < sn S 0) (q2 : 2 ≤ w) 
    (x1 : (∀ i, i < sn S 9 → tchP S v w 1 i = false) → Q (gRv p sg (-1)))
    (x2 : ∀ k : Nat, 0 ≤ k → k < sn S 9 → (∀ i, i < k → tchP S v w 1 i = false) → (¬ (sn S 9 ≤ k)) → ((tchP S v w 1 k = true)) → Q (gRv p sg (nI k))) :
    gW X (d + 4) k_120 2 [some (vR 200), some (vI (nI v)), some (vI (nI w)), some (vI (nI 0))] [] p sg Q := by
  have b0 := hI.b0; have b1 := hI.b1; have b2 := hI.b2; have b3 := hI.b3; have b4 := hI.b4; have b5 := hI.b5; have b6 := hI.b6; have b7 := hI.b7; have b8 := hI.b8; have b9 := hI.b9; have b14 := hI.b14
  refine g_upI (P := fun k => gW X (d + 4) k_120 2 [some (vR 200), some (vI (nI v)), some (vI (nI w)), some (vI (nI k))] [] p sg Q) (I := fun k => (∀ i, i < k → tchP S v w 1 i = false)) (n := sn S 9) (a := 0) (by omega) (by exact none_below) (fun k hj0 hj hi ih => ?_) (fun hi => ?_)
  · have ih : (∀ i, i < (k + 1) → tchP S v w 1 i = false) → gW X (d + 4) k_120 2 [some (vR 200), some (vI (nI v)), some (vI (nI w)), some (vI (nI (k + 1)))] [] p sg Q := ih
    exact b_120_2 hI hL hD (by omega) (by omega) (by omega) (by omega) (by omega) (fun h1 => by omega) (fun h1 h2 => by exact ih (by exact not_below hi (by simpa using h2))) (x2 k hj0 hj hi)
  · exact b_120_2 hI hL hD (by omega) (by omega) (by omega) (by omega) (by omega) (fun _ => x1 hi) (fun h1 h2 => by omega) (fun h1 h2 => by omega)

theorem s_120 {X : Nat × (Nat → Int32)} {d : Nat} {p : Nat → Nat} {sg : Mg} {B : Nat} {S : Nat → Int32} (hI : Inv B S) (hL : cwL 250 sg S) (hD : cwD 200 sg S) {v w : Nat} (hv : v < sn S 0) (h2 : 2 ≤ w) (h7 : w ≤ 7) : gF X (d + 5) 120 [vR 200, vI (nI v), vI (nI w)] p sg (fun r => r = gRv p sg (fstv (tchP S v w 1) (sn S 9))) := by
  have b0 := hI.b0
  refine g_in (cd := k_120) (nL := 4) (rc := 11) rfl (g_A (a := 200) (kd := 0) (n := 10) rfl (by decide)) (g_c1 rfl) (b_120_0 hI hL hD (by omega) h7 hv h2 (l_120_2 hI hL hD (by omega) h7 hv h2 ?_ ?_))
  · intro hi
    rw [fstv_no hi]
  · intro k _ hk hi h1 h2
    rw [fstv_at hk h2 hi]

theorem b_124_0 {X : Nat × (Nat → Int32)} {d : Nat} {p : Nat → Nat} {sg : Mg} {Q : am_R → Prop} {B : Nat} {S : Nat → Int32} (hI : Inv B S) (hL : cwL 250 sg S) (hD : cwD 200 sg S) {v : Nat} {l : Nat} {w : Nat} (u_v : v ≤ 5) (u_l : l ≤ 16) (u_w : w ≤ 7) (q1 : v < sn S 0) (q2 : 2 ≤ w)
    (o1 : gW X (d + 4) k_124 2 [some (vR 200), some (vI (nI v)), some (vI (nI l)), some (vI (nI w)), some (vI 0)] [] p sg Q) :
    gW X (d + 4) k_124 0 [some (vR 200), some (vI (nI v)), some (vI (nI l)), some (vI (nI w)), none] [] p sg Q := by
  have b0 := hI.b0; have b1 := hI.b1; have b2 := hI.b2; have b3 := hI.b3; have b4 := hI.b4; have b5 := hI.b5; have b6 := hI.b6; have b7 := hI.b7; have b8 := hI.b8; have b9 := hI.b9; have b14 := hI.b14
  refine g_pure 2 (i' := 2) (lv' := [some (vR 200), some (vI (nI v)), some (vI (nI l)), some (vI (nI w)), some (vI 0)]) (st' := []) rfl ?_
  exact o1

theorem b_124_2 {X : Nat × (Nat → Int32)} {d : Nat} {p : Nat → Nat} {sg : Mg} {Q : am_R → Prop} {B : Nat} {S : Nat → Int32} (hI : Inv B S) (hL : cwL 250 sg S) (hD : cwD 200 sg S) {v : Nat} {l : Nat} {w : Nat} {k : Nat} (u_v : v ≤ 5) (u_l : l ≤ 16) (u_w : w ≤ 7) (u_k : k ≤ 16) (q1 : v < sn S 0) (q2 : 2 ≤ w)
    (o1 : (sn S 9 ≤ k) → Q (gRv p sg 1))
    (o2 : (¬ (sn S 9 ≤ k)) → (tchP S v w l k = true) → gW X (d + 4) k_124 2 [some (vR 200), some (vI (nI v)), some (vI (nI l)), some (vI (nI w)), some (vI (nI (k + 1)))] [] p sg Q)
    (o3 : (¬ (sn S 9 ≤ k)) → (¬ (tchP S v w l k = true)) → Q (gRv p sg 0)) :
    gW X (d + 4) k_124 2 [some (vR 200), some (vI (nI v)), some (vI (nI l)), some (vI (nI w)), some (vI (nI k))] [] p sg Q := by
  have b0 := hI.b0; have b1 := hI.b1; have b2 := hI.b2; have b3 := hI.b3; have b4 := hI.b4; have b5 := hI.b5; have b6 := hI.b6; have b7 := hI.b7; have b8 := hI.b8; have b9 := hI.b9; have b14 := hI.b14
  refine g_pure 3 (i' := 5) (lv' := [some (vR 200), some (vI (nI v)), some (vI (nI l)), some (vI (nI w)), some (vI (nI k))]) (st' := [vR 202, vI (nI k)]) rfl ?_
  refine g_getI rfl (g_A (a := 202) (kd := 0) (n := 3) rfl (by decide)) (show _ = S 9 from hD.f5) ?_
  refine g_if2 (i' := 18) (P := sn S 9 ≤ k) rfl rfl (g_geN (show nI k = nI k from (rfl : nI k = nI k)) (show S 9 = nI (sn S 9) from (hI.c9)) (by omega) (by omega)) (fun h1 => ?_) (fun h1 => ?_)
  · refine g_pure 1 (i' := 19) (lv' := [some (vR 200), some (vI (nI v)), some (vI (nI l)), some (vI (nI w)), some (vI (nI k))]) (st' := [vI 1]) rfl ?_
    refine g_bret rfl g_nar1 ?_
    exact o1 h1
  · refine g_pure 5 (i' := 12) (lv' := [some (vR 200), some (vI (nI v)), some (vI (nI l)), some (vI (nI w)), some (vI (nI k))]) (st' := [vI (nI w), vI (nI l), vI (nI k), vI (nI v), vR 200]) rfl ?_
    refine g_cV1 rfl (args := [vR 200, vI (nI v), vI (nI k), vI (nI l), vI (nI w)]) (rest := []) rfl rfl rfl (s_121 (d := d) hI hL hD (by omega) (by omega) (by omega) (by omega) (by omega)) ?_
    refine g_if1 (i' := 16) (P := tchP S v w l k = true) rfl rfl g_neB (fun h2 => ?_) (fun h2 => ?_)
    · refine g_pure 2 (i' := 2) (lv' := [some (vR 200), some (vI (nI v)), some (vI (nI l)), some (vI (nI w)), some (vI (nI k + 1))]) (st' := []) rfl ?_
      refine gW_eq (lv' := [some (vR 200), some (vI (nI v)), some (vI (nI l)), some (vI (nI w)), some (vI (nI (k + 1)))]) (st' := []) (by rw [(show (nI k + 1) = nI (k + 1) from ((g_add (rfl : nI k = nI k) (show (1 : Int32) = nI 1 from rfl))).trans (congrArg nI (by omega)))]) rfl rfl ?_
      exact o2 h1 h2
    · refine g_pure 1 (i' := 15) (lv' := [some (vR 200), some (vI (nI v)), some (vI (nI l)), some (vI (nI w)), some (vI (nI k))]) (st' := [vI 0]) rfl ?_
      refine g_bret rfl g_nar0 ?_
      exact o3 h1 h2

theorem l_124_2 {X : Nat × (Nat → Int32)} {d : Nat} {p : Nat → Nat} {sg : Mg} {Q : am_R → Prop} {B : Nat} {S : Nat → Int32} (hI : Inv B S) (hL : cwL 250 sg S) (hD : cwD 200 sg S) {v : Nat} {l : Nat} {w : Nat} (u_v : v ≤ 5) (u_l : l ≤ 16) (u_w : w ≤ 7) (q1 : v < sn S 0) (q2 : 2 ≤ w) 
    (x1 : (∀ i, i < sn S 9 → tchP S v w l i = true) → Q (gRv p sg 1))
    (x2 : ∀ k : Nat, 0 ≤ k → k < sn S 9 → (∀ i, i < k → tchP S v w l i = true) → (¬ (sn S 9 ≤ k)) → (¬ (tchP S v w l k = true)) → Q (gRv p sg 0)) :
    gW X (d + 4) k_124 2 [some (vR 200), some (vI (nI v)), some (vI (nI l)), some (vI (nI w)), some (vI (nI 0))] [] p sg Q := by
  have b0 := hI.b0; have b1 := hI.b1; have b2 := hI.b2; have b3 := hI.b3; have b4 := hI.b4; have b5 := hI.b5; have b6 := hI.b6; have b7 := hI.b7; have b8 := hI.b8; have b9 := hI.b9; have b14 := hI.b14
  refine g_upI (P := fun k => gW X (d + 4) k_124 2 [some (vR 200), some (vI (nI v)), some (vI (nI l)), some (vI (nI w)), some (vI (nI k))] [] p sg Q) (I := fun k => (∀ i, i < k → tchP S v w l i = true)) (n := sn S 9) (a := 0) (by omega) (by exact fun i hi => absurd hi (Nat.not_lt_zero i)) (fun k hj0 hj hi ih => ?_) (fun hi => ?_)
  · have ih : (∀ i, i < (k + 1) → tchP S v w l i = true) → gW X (d + 4) k_124 2 [some (vR 200), some (vI (nI v)), some (vI (nI l)), some (vI (nI w)), some (vI (nI (k + 1)))] [] p sg Q := ih
    exact b_124_2 hI hL hD (by omega) (by omega) (by omega) (by omega) (by omega) (by omega) (fun h1 => by omega) (fun h1 h2 => by exact ih (by intro i hi2; rcases Nat.lt_succ_iff_lt_or_eq.mp hi2 with h9 | h9; exact hi i h9; rw [h9]; exact h2)) (x2 k hj0 hj hi)
  · exact b_124_2 hI hL hD (by omega) (by omega) (by omega) (by omega) (by omega) (by omega) (fun _ => x1 hi) (fun h1 h2 => by omega) (fun h1 h2 => by omega)

theorem s_124 {X : Nat × (Nat → Int32)} {d : Nat} {p : Nat → Nat} {sg : Mg} {B : Nat} {S : Nat → Int32} (hI : Inv B S) (hL : cwL 250 sg S) (hD : cwD 200 sg S) {v l w : Nat} (hv : v < sn S 0) (hl : l ≤ 16) (h2 : 2 ≤ w) (h7 : w ≤ 7) : gF X (d + 5) 124 [vR 200, vI (nI v), vI (nI l), vI (nI w)] p sg (fun r => r = gRv p sg (if allb (tchP S v w l) (sn S 9) = true then 1 else 0)) := by
  have b0 := hI.b0
  refine g_in (cd := k_124) (nL := 5) (rc := 11) rfl (g_A (a := 200) (kd := 0) (n := 10) rfl (by decide)) (g_c1 rfl) (b_124_0 hI hL hD (by omega) hl h7 hv h2 (l_124_2 hI hL hD (by omega) hl h7 hv h2 ?_ ?_))
  · intro hi
    rw [if_pos (allb_iff.mpr hi)]
  · intro k _ hk hi h1 h2
    rw [if_neg (fun h9 => h2 (allb_iff.mp h9 k hk))]

theorem b_123_0 {X : Nat × (Nat → Int32)} {d : Nat} {p : Nat → Nat} {sg : Mg} {Q : am_R → Prop} {B : Nat} {S : Nat → Int32} (hI : Inv B S) (hL : cwL 250 sg S) (hD : cwD 200 sg S) {v : Nat} {w : Nat} (u_v : v ≤ 5) (u_w : w ≤ 7) (q1 : v < sn S 0) (q2 : 2 ≤ w)
    (o1 : gW X (d + 5) k_123 2 [some (vR 200), some (vI (nI v)), some (vI (nI w)), some (vI 1)] [] p sg Q) :
    gW X (d + 5) k_123 0 [some (vR 200), some (vI (nI v)), some (vI (nI w)), none] [] p sg Q := by
  have b0 := hI.b0; have b1 := hI.b1; have b2 := hI.b2; have b3 := hI.b3; have b4 := hI.b4; have b5 := hI.b5; have b6 := hI.b6; have b7 := hI.b7; have b8 := hI.b8; have b9 := hI.b9; have b14 := hI.b14
  refine g_pure 2 (i' := 2) (lv' := [some (vR 200), some (vI (nI v)), some (vI (nI w)), some (vI 1)]) (st' := []) rfl ?_
  exact o1

theorem b_123_2 {X : Nat × (Nat → Int32)} {d : Nat} {p : Nat → Nat} {sg : Mg} {Q : am_R → Prop} {B : Nat} {S : Nat → Int32} (hI : Inv B S) (hL : cwL 250 sg S) (hD : cwD 200 sg S) {v : Nat} {w : Nat} {l : Nat} (u_v : v ≤ 5) (u_w : w ≤ 7) (u_l : l ≤ 16) (q1 : v < sn S 0) (q2 : 2 ≤ w)
    (o1 : (sn S 9 ≤ l) → Q (gRv p sg (S 9)))
    (o2 : (¬ (sn S 9 ≤ l)) → (¬ (allb (tchP S v w l) (sn S 9) = true)) → gW X (d + 5) k_123 2 [some (vR 200), some (vI (nI v)), some (vI (nI w)), some (vI (nI (l + 1)))] [] p sg Q)
    (o3 : (¬ (sn S 9 ≤ l)) → ((allb (tchP S v w l) (sn S 9) = true)) → Q (gRv p sg (nI l))) :
    gW X (d + 5) k_123 2 [some (vR 200), some (vI (nI v)), some (vI (nI w)), some (vI (nI l))] [] p sg Q := by
  have b0 := hI.b0; have b1 := hI.b1; have b2 := hI.b2; have b3 := hI.b3; have b4 := hI.b4; have b5 := hI.b5; have b6 := hI.b6; have b7 := hI.b7; have b8 := hI.b8; have b9 := hI.b9; have b14 := hI.b14
  refine g_pure 3 (i' := 5) (lv' := [some (vR 200), some (vI (nI v)), some (vI (nI w)), some (vI (nI l))]) (st' := [vR 202, vI (nI l)]) rfl ?_
  refine g_getI rfl (g_A (a := 202) (kd := 0) (n := 3) rfl (by decide)) (show _ = S 9 from hD.f5) ?_
  refine g_if2 (i' := 17) (P := sn S 9 ≤ l) rfl rfl (g_geN (show nI l = nI l from (rfl : nI l = nI l)) (show S 9 = nI (sn S 9) from (hI.c9)) (by omega) (by omega)) (fun h1 => ?_) (fun h1 => ?_)
  · refine g_pure 2 (i' := 19) (lv' := [some (vR 200), some (vI (nI v)), some (vI (nI w)), some (vI (nI l))]) (st' := [vR 202]) rfl ?_
    refine g_getI rfl (g_A (a := 202) (kd := 0) (n := 3) rfl (by decide)) (show _ = S 9 from hD.f5) ?_
    refine g_iret rfl ?_
    exact o1 h1
  · refine g_pure 4 (i' := 11) (lv' := [some (vR 200), some (vI (nI v)), some (vI (nI w)), some (vI (nI l))]) (st' := [vI (nI w), vI (nI l), vI (nI v), vR 200]) rfl ?_
    refine g_cV1 rfl (args := [vR 200, vI (nI v), vI (nI l), vI (nI w)]) (rest := []) rfl rfl rfl (s_124 (d := d) hI hL hD (by omega) (by omega) (by omega) (by omega)) ?_
    refine g_if1 (i' := 15) (P := ¬ (allb (tchP S v w l) (sn S 9) = true)) rfl rfl g_eqB (fun h2 => ?_) (fun h2 => ?_)
    · refine g_pure 2 (i' := 2) (lv' := [some (vR 200), some (vI (nI v)), some (vI (nI w)), some (vI (nI l + 1))]) (st' := []) rfl ?_
      refine gW_eq (lv' := [some (vR 200), some (vI (nI v)), some (vI (nI w)), some (vI (nI (l + 1)))]) (st' := []) (by rw [(show (nI l + 1) = nI (l + 1) from ((g_add (rfl : nI l = nI l) (show (1 : Int32) = nI 1 from rfl))).trans (congrArg nI (by omega)))]) rfl rfl ?_
      exact o2 h1 h2
    · have h2 := Classical.not_not.mp h2
      refine g_pure 1 (i' := 14) (lv' := [some (vR 200), some (vI (nI v)), some (vI (nI w)), some (vI (nI l))]) (st' := [vI (nI l)]) rfl ?_
      refine g_iret rfl ?_
      exact o3 h1 h2

theorem l_123_2 {X : Nat × (Nat → Int32)} {d : Nat} {p : Nat → Nat} {sg : Mg} {Q : am_R → Prop} {B : Nat} {S : Nat → Int32} (hI : Inv B S) (hL : cwL 250 sg S) (hD : cwD 200 sg S) {v : Nat} {w : Nat} (u_v : v ≤ 5) (u_w : w ≤ 7) (q1 : v < sn S 0) (q2 : 2 ≤ w) 
    (x1 : (∀ i, 1 ≤ i → i < sn S 9 → allb (tchP S v w i) (sn S 9) = false) → Q (gRv p sg (S 9)))
    (x2 : ∀ l : Nat, 1 ≤ l → l < sn S 9 → (∀ i, 1 ≤ i → i < l → allb (tchP S v w i) (sn S 9) = false) → (¬ (sn S 9 ≤ l)) → ((allb (tchP S v w l) (sn S 9) = true)) → Q (gRv p sg (nI l))) :
    gW X (d + 5) k_123 2 [some (vR 200), some (vI (nI v)), some (vI (nI w)), some (vI (nI 1))] [] p sg Q := by
  have b0 := hI.b0; have b1 := hI.b1; have b2 := hI.b2; have b3 := hI.b3; have b4 := hI.b4; have b5 := hI.b5; have b6 := hI.b6; have b7 := hI.b7; have b8 := hI.b8; have b9 := hI.b9; have b14 := hI.b14
  refine g_upI (P := fun l => gW X (d + 5) k_123 2 [some (vR 200), some (vI (nI v)), some (vI (nI w)), some (vI (nI l))] [] p sg Q) (I := fun l => (∀ i, 1 ≤ i → i < l → allb (tchP S v w i) (sn S 9) = false)) (n := sn S 9) (a := 1) (by omega) (by intro i h1 h2; omega) (fun l hj0 hj hi ih => ?_) (fun hi => ?_)
  · have ih : (∀ i, 1 ≤ i → i < (l + 1) → allb (tchP S v w i) (sn S 9) = false) → gW X (d + 5) k_123 2 [some (vR 200), some (vI (nI v)), some (vI (nI w)), some (vI (nI (l + 1)))] [] p sg Q := ih
    exact b_123_2 hI hL hD (by omega) (by omega) (by omega) (by omega) (by omega) (fun h1 => by omega) (fun h1 h2 => by exact ih (by intro i h1 h9; rcases Nat.lt_succ_iff_lt_or_eq.mp h9 with h8 | h8; exact hi i h1 h8; rw [h8]; simpa using h2)) (x2 l hj0 hj hi)
  · exact b_123_2 hI hL hD (by omega) (by omega) (by omega) (by omega) (by omega) (fun _ => x1 hi) (fun h1 h2 => by omega) (fun h1 h2 => by omega)

theorem rnd_no {S : Nat → Int32} {v w : Nat} (h9 : 3 ≤ sn S 9) (hi : ∀ i, 1 ≤ i → i < sn S 9 → allb (tchP S v w i) (sn S 9) = false) : rnd S v w = sn S 9 := by
  unfold rnd
  obtain ⟨h1, h2, h3, h4⟩ := fnd_spec (fun l => allb (tchP S v w l) (sn S 9)) (sn S 9 - 1) 1
  generalize fnd (fun l => allb (tchP S v w l) (sn S 9)) (sn S 9 - 1) 1 = r at h1 h2 h3 h4
  rcases Nat.lt_or_ge r (sn S 9) with h5 | h5
  · have h6 := h4 (by omega)
    have h7 := hi r h1 h5
    rw [h7] at h6
    cases h6
  · omega
theorem rnd_at {S : Nat → Int32} {v w l : Nat} (h1 : 1 ≤ l) (hl : l < sn S 9) (h : allb (tchP S v w l) (sn S 9) = true) (hi : ∀ i, 1 ≤ i → i < l → allb (tchP S v w i) (sn S 9) = false) : rnd S v w = l := fnd_eq h1 (by omega) h (fun j h1 h2 => hi j h1 h2)
theorem s_123 {X : Nat × (Nat → Int32)} {d : Nat} {p : Nat → Nat} {sg : Mg} {B : Nat} {S : Nat → Int32} (hI : Inv B S) (hL : cwL 250 sg S) (hD : cwD 200 sg S) {v w : Nat} (hv : v < sn S 0) (h2 : 2 ≤ w) (h7 : w ≤ 7) : gF X (d + 6) 123 [vR 200, vI (nI v), vI (nI w)] p sg (fun r => r = gRv p sg (nI (rnd S v w))) := by
  have b0 := hI.b0
  have b9 := hI.b9
  refine g_in (cd := k_123) (nL := 4) (rc := 11) rfl (g_A (a := 200) (kd := 0) (n := 10) rfl (by decide)) (g_c1 rfl) (b_123_0 hI hL hD (by omega) h7 hv h2 (l_123_2 hI hL hD (by omega) h7 hv h2 ?_ ?_))
  · intro hi
    rw [rnd_no b9.1 hi, ← hI.c9]
  · intro k h1 hk hi h2 h3
    rw [rnd_at h1 hk h3 hi]

theorem s_292r {X : Nat × (Nat → Int32)} {d : Nat} {p : Nat → Nat} {sg : Mg} {B : Nat} {S : Nat → Int32} (hI : Inv B S) (hS : sg 801 = S) {v : Nat} {k : Nat} {l : Nat} {w : Nat} (u_v : v ≤ 5) (u_k : k ≤ 15) (u_l : l ≤ 31) (u_w : w ≤ 7) (q1 : v < sn S 0) (q2 : k < sn S 9) (q3 : 2 ≤ w) : gF X (d + 2) 292 [vR 800, vI (nI v), vI (nI k), vI (nI l), vI (nI w)] p sg (fun r => r = gRv p sg (if ((sn S (17 + 16 * v + k)) % w) = ((sn S (17 + 16 * v + (l % (sn S 9)))) % w) then 1 else 0)) := by
  have b0 := hI.b0; have b1 := hI.b1; have b2 := hI.b2; have b3 := hI.b3; have b4 := hI.b4; have b5 := hI.b5; have b6 := hI.b6; have b7 := hI.b7; have b8 := hI.b8; have b9 := hI.b9; have b14 := hI.b14
  refine g_in (cd := k_292) (nL := 5) (rc := 13) rfl (g_A (a := 800) (kd := 0) (n := 12) rfl (by decide)) (g_c1 rfl) ?_
  show gW X (d + 1) k_292 0 [some (vR 800), some (vI (nI v)), some (vI (nI k)), some (vI (nI l)), some (vI (nI w))] [] p sg _
  refine g_pure 3 (i' := 3) (lv' := [some (vR 800), some (vI (nI v)), some (vI (nI k)), some (vI (nI l)), some (vI (nI w))]) (st' := [vI (nI k), vI (nI v), vR 800]) rfl ?_
  refine g_cV1 rfl (args := [vR 800, vI (nI v), vI (nI k)]) (rest := []) rfl rfl rfl (s_217 (d := d) hS (by omega) (by omega)) ?_
  refine g_pure 1 (i' := 5) (lv' := [some (vR 800), some (vI (nI v)), some (vI (nI k)), some (vI (nI l)), some (vI (nI w))]) (st' := [vI (nI w), vI (S (17 + 16 * v + k))]) rfl ?_
  have t1 := hI.tbb (v := v) (q := k) (by omega) (by omega)
  refine g_rem rfl (g_nz (rfl : nI w = nI w) (by omega) (by omega)) ?_
  have t2 : ((sn S (17 + 16 * v + k)) % w) < w := Nat.mod_lt _ (by omega)
  refine g_pure 4 (i' := 10) (lv' := [some (vR 800), some (vI (nI v)), some (vI (nI k)), some (vI (nI l)), some (vI (nI w))]) (st' := [vR 800, vI (nI l), vI (nI v), vR 800, vI (S (17 + 16 * v + k) - S (17 + 16 * v + k) / nI w * nI w)]) rfl ?_
  refine gW_eq (lv' := [some (vR 800), some (vI (nI v)), some (vI (nI k)), some (vI (nI l)), some (vI (nI w))]) (st' := [vR 800, vI (nI l), vI (nI v), vR 800, vI (nI ((sn S (17 + 16 * v + k)) % w))]) rfl (by rw [(show (S (17 + 16 * v + k) - S (17 + 16 * v + k) / nI w * nI w) = nI ((sn S (17 + 16 * v + k)) % w) from (g_modN (hI.tb (by omega) (by omega)) (rfl : nI w = nI w) (by omega) (by omega) (by omega)))]) rfl ?_
  refine g_cV1 rfl (args := [vR 800]) (rest := [vI (nI l), vI (nI v), vR 800, vI (nI ((sn S (17 + 16 * v + k)) % w))]) rfl rfl rfl (s_199 (d := d) hS) ?_
  refine g_rem rfl (g_nz (hI.c9) (by omega) (by omega)) ?_
  have t3 : (l % (sn S 9)) < sn S 9 := Nat.mod_lt _ (by omega)
  refine gW_eq (lv' := [some (vR 800), some (vI (nI v)), some (vI (nI k)), some (vI (nI l)), some (vI (nI w))]) (st' := [vI (nI (l % (sn S 9))), vI (nI v), vR 800, vI (nI ((sn S (17 + 16 * v + k)) % w))]) rfl (by rw [(show (nI l - nI l / S 9 * S 9) = nI (l % (sn S 9)) from (g_modN (rfl : nI l = nI l) (hI.c9) (by omega) (by omega) (by omega)))]) rfl ?_
  refine g_cV1 rfl (args := [vR 800, vI (nI v), vI (nI (l % (sn S 9)))]) (rest := [vI (nI ((sn S (17 + 16 * v + k)) % w))]) rfl rfl rfl (s_217 (d := d) hS (by omega) (by omega)) ?_
  refine g_pure 1 (i' := 14) (lv' := [some (vR 800), some (vI (nI v)), some (vI (nI k)), some (vI (nI l)), some (vI (nI w))]) (st' := [vI (nI w), vI (S (17 + 16 * v + (l % (sn S 9)))), vI (nI ((sn S (17 + 16 * v + k)) % w))]) rfl ?_
  have t4 := hI.tbb (v := v) (q := (l % (sn S 9))) (by omega) (by omega)
  refine g_rem rfl (g_nz (rfl : nI w = nI w) (by omega) (by omega)) ?_
  have t5 : ((sn S (17 + 16 * v + (l % (sn S 9)))) % w) < w := Nat.mod_lt _ (by omega)
  refine gW_eq (lv' := [some (vR 800), some (vI (nI v)), some (vI (nI k)), some (vI (nI l)), some (vI (nI w))]) (st' := [vI (nI ((sn S (17 + 16 * v + (l % (sn S 9)))) % w)), vI (nI ((sn S (17 + 16 * v + k)) % w))]) rfl (by rw [(show (S (17 + 16 * v + (l % (sn S 9))) - S (17 + 16 * v + (l % (sn S 9))) / nI w * nI w) = nI ((sn S (17 + 16 * v + (l % (sn S 9)))) % w) from (g_modN (hI.tb (by omega) (by omega)) (rfl : nI w = nI w) (by omega) (by omega) (by omega)))]) rfl ?_
  refine g_if2 (i' := 18) (P := ¬ ((sn S (17 + 16 * v + k)) % w) = ((sn S (17 + 16 * v + (l % (sn S 9)))) % w)) rfl rfl (g_neN (show nI ((sn S (17 + 16 * v + k)) % w) = nI ((sn S (17 + 16 * v + k)) % w) from (rfl : nI ((sn S (17 + 16 * v + k)) % w) = nI ((sn S (17 + 16 * v + k)) % w))) (show nI ((sn S (17 + 16 * v + (l % (sn S 9)))) % w) = nI ((sn S (17 + 16 * v + (l % (sn S 9)))) % w) from (rfl : nI ((sn S (17 + 16 * v + (l % (sn S 9)))) % w) = nI ((sn S (17 + 16 * v + (l % (sn S 9)))) % w))) (by omega) (by omega)) (fun h6 => ?_) (fun h6 => ?_)
  · refine g_pure 1 (i' := 19) (lv' := [some (vR 800), some (vI (nI v)), some (vI (nI k)), some (vI (nI l)), some (vI (nI w))]) (st' := [vI 0]) rfl ?_
    refine g_bret rfl g_nar0 ?_
    exact (congrArg (gRv p sg) (if_neg h6).symm)
  · have h6 := Classical.not_not.mp h6
    refine g_pure 2 (i' := 19) (lv' := [some (vR 800), some (vI (nI v)), some (vI (nI k)), some (vI (nI l)), some (vI (nI w))]) (st' := [vI 1]) rfl ?_
    refine g_bret rfl g_nar1 ?_
    exact (congrArg (gRv p sg) (if_pos h6).symm)

theorem s_292 {X : Nat × (Nat → Int32)} {d : Nat} {p : Nat → Nat} {sg : Mg} {B : Nat} {S : Nat → Int32} (hI : Inv B S) (hS : sg 801 = S) {v k l w : Nat} (hv : v < sn S 0) (hk : k < sn S 9) (hl : l ≤ 15) (h2 : 2 ≤ w) (h7 : w ≤ 7) : gF X (d + 2) 292 [vR 800, vI (nI v), vI (nI k), vI (nI (k + l)), vI (nI w)] p sg (fun r => r = gRv p sg (if tchP S v w l k = true then 1 else 0)) := by
  have b0 := hI.b0
  have b9 := hI.b9
  refine gF_mono (s_292r hI hS (by omega) (by omega) (by omega) h7 hv hk h2) (fun r hr => hr.trans (congrArg (gRv p sg) (g_ite ?_)))
  unfold tchP
  rw [decide_eq_true_iff, Nat.mod_eq_of_lt hk]

theorem b_291_33 {X : Nat × (Nat → Int32)} {d : Nat} {p : Nat → Nat} {sg : Mg} {Q : am_R → Prop} {B : Nat} {S : Nat → Int32} (hI : Inv B S) (hS : sg 801 = S) {v : Nat} {w : Nat} {P : Prop} [Decidable P] {c : Nat} {f : Int32} {k : Nat} (u_v : v ≤ 5) (u_w : w ≤ 7) (u_c : c ≤ 16) (u_k : k ≤ 15) (q1 : v < sn S 0) (q2 : k < sn S 9) (q3 : 2 ≤ w)
    (o1 : (tchP S v w 1 k = true) → gW X (d + 2) k_291 33 [some (vR 800), some (vI (nI v)), some (vI (nI w)), some (vI (if P then 1 else 0)), some (vI (nI (c + 1))), some (vI (nI k)), some (vI (nI k + -1))] [] p sg Q)
    (o2 : (¬ (tchP S v w 1 k = true)) → gW X (d + 2) k_291 33 [some (vR 800), some (vI (nI v)), some (vI (nI w)), some (vI (if P then 1 else 0)), some (vI (nI c)), some (vI f), some (vI (nI k + -1))] [] p sg Q) :
    gW X (d + 2) k_291 33 [some (vR 800), some (vI (nI v)), some (vI (nI w)), some (vI (if P then 1 else 0)), some (vI (nI c)), some (vI f), some (vI (nI k))] [] p sg Q := by
  have b0 := hI.b0; have b1 := hI.b1; have b2 := hI.b2; have b3 := hI.b3; have b4 := hI.b4; have b5 := hI.b5; have b6 := hI.b6; have b7 := hI.b7; have b8 := hI.b8; have b9 := hI.b9; have b14 := hI.b14
  refine g_pure 1 (i' := 34) (lv' := [some (vR 800), some (vI (nI v)), some (vI (nI w)), some (vI (if P then 1 else 0)), some (vI (nI c)), some (vI f), some (vI (nI k))]) (st' := [vI (nI k)]) rfl ?_
  refine g_if1 (i' := 50) (P := k < 0) rfl rfl (g_ltN (show nI k = nI k from (rfl : nI k = nI k)) (show 0 = nI 0 from (show (0 : Int32) = nI 0 from rfl)) (by omega) (by omega)) (fun h1 => absurd h1 (by omega)) (fun _ => ?_)
  refine g_pure 7 (i' := 42) (lv' := [some (vR 800), some (vI (nI v)), some (vI (nI w)), some (vI (if P then 1 else 0)), some (vI (nI c)), some (vI f), some (vI (nI k))]) (st' := [vI (nI w), vI (nI k + 1), vI (nI k), vI (nI v), vR 800]) rfl ?_
  refine gW_eq (lv' := [some (vR 800), some (vI (nI v)), some (vI (nI w)), some (vI (if P then 1 else 0)), some (vI (nI c)), some (vI f), some (vI (nI k))]) (st' := [vI (nI w), vI (nI (k + 1)), vI (nI k), vI (nI v), vR 800]) rfl (by rw [(show (nI k + 1) = nI (k + 1) from ((g_add (rfl : nI k = nI k) (show (1 : Int32) = nI 1 from rfl))).trans (congrArg nI (by omega)))]) rfl ?_
  refine g_cV1 rfl (args := [vR 800, vI (nI v), vI (nI k), vI (nI (k + 1)), vI (nI w)]) (rest := []) rfl rfl rfl (s_292 (l := 1) (d := d) hI hS (by omega) (by omega) (by omega) (by omega) (by omega)) ?_
  refine g_if1 (i' := 45) (P := tchP S v w 1 k = true) rfl rfl g_neB (fun h2 => ?_) (fun h2 => ?_)
  · refine g_pure 5 (i' := 33) (lv' := [some (vR 800), some (vI (nI v)), some (vI (nI w)), some (vI (if P then 1 else 0)), some (vI (nI c + 1)), some (vI (nI k)), some (vI (nI k + -1))]) (st' := []) rfl ?_
    refine gW_eq (lv' := [some (vR 800), some (vI (nI v)), some (vI (nI w)), some (vI (if P then 1 else 0)), some (vI (nI (c + 1))), some (vI (nI k)), some (vI (nI k + -1))]) (st' := []) (by rw [(show (nI c + 1) = nI (c + 1) from ((g_add (rfl : nI c = nI c) (show (1 : Int32) = nI 1 from rfl))).trans (congrArg nI (by omega)))]) rfl rfl ?_
    exact o1 h2
  · refine g_pure 3 (i' := 33) (lv' := [some (vR 800), some (vI (nI v)), some (vI (nI w)), some (vI (if P then 1 else 0)), some (vI (nI c)), some (vI f), some (vI (nI k + -1))]) (st' := []) rfl ?_
    exact o2 h2

theorem b_291_33x {X : Nat × (Nat → Int32)} {d : Nat} {p : Nat → Nat} {sg : Mg} {Q : am_R → Prop} {B : Nat} {S : Nat → Int32} (hI : Inv B S) (hS : sg 801 = S) {v : Nat} {w : Nat} {P : Prop} [Decidable P] {c : Nat} {f : Int32} (u_v : v ≤ 5) (u_w : w ≤ 7) (u_c : c ≤ 16) (q1 : v < sn S 0) (q2 : 2 ≤ w)
    (o1 : (¬ P) → Q (gRv p sg (nI c)))
    (o2 : (P) → Q (gRv p sg f)) :
    gW X (d + 2) k_291 33 [some (vR 800), some (vI (nI v)), some (vI (nI w)), some (vI (if P then 1 else 0)), some (vI (nI c)), some (vI f), some (vI (-1))] [] p sg Q := by
  have b0 := hI.b0; have b1 := hI.b1; have b2 := hI.b2; have b3 := hI.b3; have b4 := hI.b4; have b5 := hI.b5; have b6 := hI.b6; have b7 := hI.b7; have b8 := hI.b8; have b9 := hI.b9; have b14 := hI.b14
  refine g_pure 1 (i' := 34) (lv' := [some (vR 800), some (vI (nI v)), some (vI (nI w)), some (vI (if P then 1 else 0)), some (vI (nI c)), some (vI f), some (vI (-1))]) (st' := [vI (-1)]) rfl ?_
  refine g_if1 (i' := 50) (P := ((-1) : Int32) < 0) rfl rfl Iff.rfl (fun _ => ?_) (fun h1 => absurd (by decide) h1)
  refine g_pure 1 (i' := 51) (lv' := [some (vR 800), some (vI (nI v)), some (vI (nI w)), some (vI (if P then 1 else 0)), some (vI (nI c)), some (vI f), some (vI (-1))]) (st' := [vI (if P then 1 else 0)]) rfl ?_
  refine g_if1 (i' := 54) (P := ¬ P) rfl rfl g_eqB (fun h2 => ?_) (fun h2 => ?_)
  · refine g_pure 1 (i' := 55) (lv' := [some (vR 800), some (vI (nI v)), some (vI (nI w)), some (vI (if P then 1 else 0)), some (vI (nI c)), some (vI f), some (vI (-1))]) (st' := [vI (nI c)]) rfl ?_
    refine g_iret rfl ?_
    exact o1 h2
  · have h2 := Classical.not_not.mp h2
    refine g_pure 2 (i' := 55) (lv' := [some (vR 800), some (vI (nI v)), some (vI (nI w)), some (vI (if P then 1 else 0)), some (vI (nI c)), some (vI f), some (vI (-1))]) (st' := [vI f]) rfl ?_
    refine g_iret rfl ?_
    exact o2 h2

theorem cnt_mono (P : Nat → Bool) : ∀ {m n : Nat}, m ≤ n → cnt P m ≤ cnt P n
  | m, 0, h => by have : m = 0 := by omega
                  subst this; exact Nat.le_refl _
  | m, n + 1, h => by
    rcases Nat.lt_or_ge m (n + 1) with h1 | h1
    · have := cnt_mono P (show m ≤ n by omega)
      simp only [cnt]
      omega
    · have : m = n + 1 := by omega
      subst this; exact Nat.le_refl _
def fsD (P : Nat → Bool) (n m : Nat) : Int32 := if fnd P (n - m) m < n then nI (fnd P (n - m) m) else -1
theorem fsD_step {P : Nat → Bool} {n m : Nat} (h : m < n) : fsD P n m = if P m = true then nI m else fsD P n (m + 1) := by
  unfold fsD
  obtain ⟨f, hf⟩ : ∃ f, n - m = f + 1 := ⟨n - m - 1, by omega⟩
  have hf2 : n - (m + 1) = f := by omega
  rw [hf, hf2]
  by_cases hp : P m = true
  · have e : fnd P (f + 1) m = m := by simp [fnd, hp]
    rw [e, if_pos h, if_pos hp]
  · have e : fnd P (f + 1) m = fnd P f (m + 1) := by simp [fnd, hp]
    rw [e, if_neg hp]
theorem nI_dec (k : Nat) : nI (k + 1) + -1 = nI k := by
  have := g_dec (a := nI (k + 1)) (m := k + 1) rfl (by omega)
  simpa using this
theorem l_291_33 {X : Nat × (Nat → Int32)} {d : Nat} {p : Nat → Nat} {sg : Mg} {B : Nat} {S : Nat → Int32} (hI : Inv B S) (hS : sg 801 = S) {Q : am_R → Prop} {v w : Nat} {P : Prop} [Decidable P] (hv : v < sn S 0) (h2 : 2 ≤ w) (h7 : w ≤ 7)
    (x : Q (gRv p sg (if P then fstv (tchP S v w 1) (sn S 9) else nI (cnt (tchP S v w 1) (sn S 9))))) :
    gW X (d + 2) k_291 33 [some (vR 800), some (vI (nI v)), some (vI (nI w)), some (vI (if P then 1 else 0)), some (vI 0), some (vI (-1)), some (vI (nI (sn S 9 - 1)))] [] p sg Q := by
  have b0 := hI.b0; have b9 := hI.b9
  have key : ∀ m, m ≤ sn S 9 → gW X (d + 2) k_291 33 [some (vR 800), some (vI (nI v)), some (vI (nI w)), some (vI (if P then 1 else 0)), some (vI (nI (cnt (tchP S v w 1) (sn S 9) - cnt (tchP S v w 1) m))), some (vI (fsD (tchP S v w 1) (sn S 9) m)), some (vI (nI m + -1))] [] p sg Q := by
    intro m
    have hle := cnt_le (tchP S v w 1) (sn S 9)
    induction m with
    | zero =>
      intro _
      refine b_291_33x hI hS (by omega) h7 (by omega) hv h2 (fun hp => ?_) (fun hp => ?_)
      · rw [if_neg hp] at x; exact x
      · rw [if_pos hp] at x; exact x
    | succ m ih =>
      intro hm
      have ih := ih (by omega)
      have hmo := cnt_mono (tchP S v w 1) (show m + 1 ≤ sn S 9 by omega)
      rw [nI_dec]
      have hst := fsD_step (P := tchP S v w 1) (n := sn S 9) (m := m) (by omega)
      refine b_291_33 hI hS (by omega) h7 (by omega) (by omega) hv (by omega) h2 (fun hp => ?_) (fun hp => ?_)
      · rw [hst, if_pos hp] at ih
        simp only [cnt, hp, if_true] at ih hmo ⊢
        rw [show cnt (tchP S v w 1) (sn S 9) - (cnt (tchP S v w 1) m + 1) + 1 = cnt (tchP S v w 1) (sn S 9) - cnt (tchP S v w 1) m by omega]
        exact ih
      · rw [hst, if_neg hp] at ih
        simp only [cnt, hp] at ih ⊢
        exact ih
  have h := key (sn S 9) (Nat.le_refl _)
  rw [Nat.sub_self, show nI (sn S 9) + -1 = nI (sn S 9 - 1) from g_dec rfl (by omega), show fsD (tchP S v w 1) (sn S 9) (sn S 9) = -1 from by unfold fsD; rw [Nat.sub_self]; exact if_neg (Nat.lt_irrefl _)] at h
  exact h

def touchR (S : Nat → Int32) (x : Int32) (y : Int32) (P : Prop) [Decidable P] : Nat × Int32 := if okx x (sn S 0) then (if okr y 2 7 then ((0, (if P then fstv (tchP S x.toNatClampNeg y.toNatClampNeg 1) (sn S 9) else nI (cnt (tchP S x.toNatClampNeg y.toNatClampNeg 1) (sn S 9))))) else (2, 0)) else (1, 0)

theorem b_168_0 {X : Nat × (Nat → Int32)} {d : Nat} {p : Nat → Nat} {sg : Mg} {Q : am_R → Prop} {B : Nat} {S : Nat → Int32} (hI : Inv B S) (hL : cwL 250 sg S) (hD : cwD 200 sg S) {x : Int32} {y : Int32} {P : Prop} [Decidable P]
    (o1 : ∀ n2 : Nat, x = nI n2 → n2 < sn S 0 → ∀ n4 : Nat, y = nI n4 → 2 ≤ n4 ∧ n4 ≤ 7 → (¬ P) → Q (gRv p sg (nI (cnt (tchP S n2 n4 1) (sn S 9)))))
    (o2 : ∀ n2 : Nat, x = nI n2 → n2 < sn S 0 → ∀ n4 : Nat, y = nI n4 → 2 ≤ n4 ∧ n4 ≤ 7 → (P) → Q (gRv p sg (fstv (tchP S n2 n4 1) (sn S 9))))
    (o3 : ∀ n2 : Nat, x = nI n2 → n2 < sn S 0 → (¬ (¬ (y < 2) ∧ ¬ (7 < y))) → Q (gRx p sg 0))
    (o4 : (¬ okx x (sn S 0)) → Q (gRx p sg 2)) :
    gW X (d + 6) k_168 0 [some (vR 0), some (vI x), some (vI y), some (vI (if P then 1 else 0))] [] p sg Q := by
  have b0 := hI.b0; have b1 := hI.b1; have b2 := hI.b2; have b3 := hI.b3; have b4 := hI.b4; have b5 := hI.b5; have b6 := hI.b6; have b7 := hI.b7; have b8 := hI.b8; have b9 := hI.b9; have b14 := hI.b14
  refine g_pure 3 (i' := 3) (lv' := [some (vR 0), some (vI x), some (vI y), some (vI (if P then 1 else 0))]) (st' := [vI x, vI 0, vR 0]) rfl ?_
  by_cases h1 : okx x (sn S 0)
  · obtain ⟨n2, ln2, en2⟩ := okx_of h1
    subst en2
    refine gW_eq (st' := [vI (nI n2), vI (nI 0), vR 0]) rfl (by rw [(show (0 : Int32) = nI 0 from rfl)]) rfl ?_
    refine g_cV0 rfl (args := [vR 0, vI (nI 0), vI (nI n2)]) (rest := []) rfl rfl rfl (s_140o (d := d + 4) hI hL hD (by omega) ((okx_nI (by omega)).mpr (by omega))) ?_
    refine g_pure 3 (i' := 7) (lv' := [some (vR 0), some (vI (nI n2)), some (vI y), some (vI (if P then 1 else 0))]) (st' := [vI 7, vI 2, vI y]) rfl ?_
    by_cases h3 : (¬ (y < 2) ∧ ¬ (7 < y))
    · obtain ⟨n4, ln4, en4⟩ := okr_of (lo := 2) (hi := 7) (by decide) h3
      subst en4
      refine g_cS0 rfl (args := [vI (nI n4), vI 2, vI 7]) (rest := []) rfl rfl rfl (s_141o (d := d + 5) (nI_nlt (b := 2) (by omega) (by omega)) (nI_nlt (a := 7) (by omega) (by omega))) ?_
      refine g_pure 1 (i' := 9) (lv' := [some (vR 0), some (vI (nI n2)), some (vI (nI n4)), some (vI (if P then 1 else 0))]) (st' := [vI (if P then 1 else 0)]) rfl ?_
      refine g_if1 (i' := 16) (P := ¬ P) rfl rfl g_eqB (fun h5 => ?_) (fun h5 => ?_)
      · refine g_pure 4 (i' := 20) (lv' := [some (vR 0), some (vI (nI n2)), some (vI (nI n4)), some (vI (if P then 1 else 0))]) (st' := [vI (nI n4), vI (nI n2), vR 200]) rfl ?_
        refine g_cV1 rfl (args := [vR 200, vI (nI n2), vI (nI n4)]) (rest := []) rfl rfl rfl (s_122 (d := d + 1) hI hL hD (by omega) (by omega) (by omega)) ?_
        refine g_iret rfl ?_
        exact o1 n2 rfl ln2 n4 rfl ln4 h5
      · have h5 := Classical.not_not.mp h5
        refine g_pure 4 (i' := 14) (lv' := [some (vR 0), some (vI (nI n2)), some (vI (nI n4)), some (vI (if P then 1 else 0))]) (st' := [vI (nI n4), vI (nI n2), vR 200]) rfl ?_
        refine g_cV1 rfl (args := [vR 200, vI (nI n2), vI (nI n4)]) (rest := []) rfl rfl rfl (s_120 (d := d + 1) hI hL hD (by omega) (by omega) (by omega)) ?_
        refine g_pure 1 (i' := 21) (lv' := [some (vR 0), some (vI (nI n2)), some (vI (nI n4)), some (vI (if P then 1 else 0))]) (st' := [vI (fstv (tchP S n2 n4 1) (sn S 9))]) rfl ?_
        refine g_iret rfl ?_
        exact o2 n2 rfl ln2 n4 rfl ln4 h5
    · refine g_cSx rfl (args := [vI y, vI 2, vI 7]) (rest := []) rfl rfl rfl (s_141x (d := d + 5) (by assumption)) ?_
      exact o3 n2 rfl ln2 h3
  · refine gW_eq (st' := [vI x, vI (nI 0), vR 0]) rfl (by rw [(show (0 : Int32) = nI 0 from rfl)]) rfl ?_
    refine g_cVx rfl (args := [vR 0, vI (nI 0), vI x]) (rest := []) rfl rfl rfl (s_140x (d := d + 4) hI hL hD (by omega) (by assumption)) ?_
    exact o4 h1

theorem c_touch {X : Nat × (Nat → Int32)} {d : Nat} {p : Nat → Nat} {sg : Mg} {B : Nat} {S : Nat → Int32} (hI : Inv B S) (hL : cwL 250 sg S) (hD : cwD 200 sg S) {x : Int32} {y : Int32} {P : Prop} [Decidable P] : gF X (d + 7) 168 [vR 0, vI x, vI y, vI (if P then 1 else 0)] p sg (oC p sg (fun c => if c = 1 then 2 else 0) (touchR S x y P)) := by
  have b0 := hI.b0; have b1 := hI.b1; have b2 := hI.b2; have b3 := hI.b3; have b4 := hI.b4; have b5 := hI.b5; have b9 := hI.b9; have b14 := hI.b14
  refine g_in (cd := k_168) (nL := 4) (rc := 12) rfl (g_A (a := 0) (kd := 0) (n := 11) rfl (by decide)) (g_c1 rfl) (b_168_0 hI hL hD (fun n1 e1 l1 n2 e2 l2 h3 => oC_0 ?_) (fun n1 e1 l1 n2 e2 l2 h3 => oC_0 ?_) (fun n1 e1 l1 h2 => oC_x (c := 1) ?_ rfl) (fun h1 => oC_x (c := 0) ?_ rfl))
  · subst e1 e2
    unfold touchR
    rw [if_pos ((okx_nI (by omega)).mpr (by omega)), if_pos ((okr_nI (by omega) (by omega) (by omega)).mpr l2)]
    try simp (disch := omega) only [nI_clamp]
    try exact congrArg (fun j => ((0, S j) : Nat × Int32)) (by omega)
    try (split <;> first | rfl | contradiction)
    try rfl
  · subst e1 e2
    unfold touchR
    rw [if_pos ((okx_nI (by omega)).mpr (by omega)), if_pos ((okr_nI (by omega) (by omega) (by omega)).mpr l2)]
    try simp (disch := omega) only [nI_clamp]
    try exact congrArg (fun j => ((0, S j) : Nat × Int32)) (by omega)
    try (split <;> first | rfl | contradiction)
    try rfl
  · subst e1
    unfold touchR
    rw [if_pos ((okx_nI (by omega)).mpr (by omega)), if_neg (show ¬ okr y 2 7 from h2)]
  · skip
    unfold touchR
    rw [if_neg h1]

theorem b_291_0 {X : Nat × (Nat → Int32)} {d : Nat} {p : Nat → Nat} {sg : Mg} {Q : am_R → Prop} {B : Nat} {S : Nat → Int32} (hI : Inv B S) (hS : sg 801 = S) {x : Int32} {y : Int32} {P : Prop} [Decidable P]
    (o1 : ∀ s1 : Mg, s1 = mu sg 800 0 0 → (¬ okx x (sn S 0)) → ∀ s3 : Mg, s3 = mu s1 800 0 (nI 1) → Q (gRv p s3 0))
    (o2 : ∀ s1 : Mg, s1 = mu sg 800 0 0 → ∀ n5 : Nat, x = nI n5 → n5 < sn S 0 → ∀ n8 : Nat, y = nI n8 → 2 ≤ n8 ∧ n8 ≤ 7 → gW X (d + 3) k_291 33 [some (vR 800), some (vI (nI n5)), some (vI (nI n8)), some (vI (if P then 1 else 0)), some (vI 0), some (vI (-1)), some (vI (nI (sn S 9 - 1)))] [] p s1 Q)
    (o3 : ∀ s1 : Mg, s1 = mu sg 800 0 0 → ∀ n5 : Nat, x = nI n5 → n5 < sn S 0 → (¬ (¬ (y < 2) ∧ ¬ (7 < y))) → ∀ s10 : Mg, s10 = mu s1 800 0 (nI 2) → Q (gRv p s10 0)) :
    gW X (d + 3) k_291 0 [some (vR 800), some (vI x), some (vI y), some (vI (if P then 1 else 0)), none, none, none] [] p sg Q := by
  have b0 := hI.b0; have b1 := hI.b1; have b2 := hI.b2; have b3 := hI.b3; have b4 := hI.b4; have b5 := hI.b5; have b6 := hI.b6; have b7 := hI.b7; have b8 := hI.b8; have b9 := hI.b9; have b14 := hI.b14
  refine g_pure 2 (i' := 2) (lv' := [some (vR 800), some (vI x), some (vI y), some (vI (if P then 1 else 0)), none, none, none]) (st' := [vI 0, vR 800]) rfl ?_
  refine g_putI rfl (g_A (a := 800) (kd := 0) (n := 12) rfl (by decide)) ?_
  refine g_setv (fun s1 es1 => ?_)
  have hSs1 : s1 801 = S := by rw [es1, mu_ne (by decide), hS]
  refine g_pure 3 (i' := 6) (lv' := [some (vR 800), some (vI x), some (vI y), some (vI (if P then 1 else 0)), none, none, none]) (st' := [vI x, vR 800, vR 800]) rfl ?_
  refine g_cV1 rfl (args := [vR 800, vI x]) (rest := [vR 800]) rfl rfl rfl (s_230 (d := d + 1) hI hSs1) ?_
  refine g_pure 1 (i' := 8) (lv' := [some (vR 800), some (vI x), some (vI y), some (vI (if P then 1 else 0)), none, none, none]) (st' := [vI 1, vI (if ¬ okx x (sn S 0) then 1 else 0), vR 800]) rfl ?_
  by_cases h2 : ¬ okx x (sn S 0)
  · refine gW_eq (st' := [vI 1, vI 1, vR 800]) rfl (by rw [if_pos h2]) rfl ?_
    refine gW_eq (st' := [vI (nI 1), vI 1, vR 800]) rfl (by rw [(show (1 : Int32) = nI 1 from rfl)]) rfl ?_
    refine g_cV1 rfl (args := [vR 800, vI 1, vI (nI 1)]) (rest := []) rfl rfl rfl (s_227t (d := d + 2) (by omega)) ?_
    refine g_setv (fun s3 es3 => ?_)
    have hSs3 : s3 801 = S := by rw [es3, mu_ne (by decide), hSs1]
    refine g_if1 (i' := 22) (P := ¬ 1 = 0) rfl rfl (g_neN (show 1 = nI 1 from (show (1 : Int32) = nI 1 from rfl)) (show 0 = nI 0 from (show (0 : Int32) = nI 0 from rfl)) (by omega) (by omega)) (fun _ => ?_) (fun h4 => absurd (by omega) h4)
    refine g_pure 1 (i' := 23) (lv' := [some (vR 800), some (vI x), some (vI y), some (vI (if P then 1 else 0)), none, none, none]) (st' := [vI 0]) rfl ?_
    refine g_iret rfl ?_
    exact o1 s1 es1 h2 s3 es3
  · have h2 := Classical.not_not.mp h2
    refine gW_eq (st' := [vI 1, vI 0, vR 800]) rfl (by rw [if_neg (fun n9 => n9 h2)]) rfl ?_
    obtain ⟨n5, ln5, en5⟩ := okx_of h2
    subst en5
    refine gW_eq (st' := [vI (nI 1), vI 0, vR 800]) rfl (by rw [(show (1 : Int32) = nI 1 from rfl)]) rfl ?_
    refine g_cV1 rfl (args := [vR 800, vI 0, vI (nI 1)]) (rest := []) rfl rfl rfl (s_227f (d := d + 2) (by omega)) ?_
    refine g_if1 (i' := 22) (P := ¬ 0 = 0) rfl rfl (g_neN (show 0 = nI 0 from (show (0 : Int32) = nI 0 from rfl)) (show 0 = nI 0 from (show (0 : Int32) = nI 0 from rfl)) (by omega) (by omega)) (fun h6 => absurd h6 (by omega)) (fun _ => ?_)
    refine g_pure 4 (i' := 14) (lv' := [some (vR 800), some (vI (nI n5)), some (vI y), some (vI (if P then 1 else 0)), none, none, none]) (st' := [vI 7, vI 2, vI y, vR 800]) rfl ?_
    refine g_cS1 rfl (args := [vI y, vI 2, vI 7]) (rest := [vR 800]) rfl rfl rfl (s_231 (d := d + 2) ) ?_
    refine g_if1 (i' := 18) (P := (¬ (y < 2) ∧ ¬ (7 < y))) rfl rfl g_neB (fun h7 => ?_) (fun h7 => ?_)
    · obtain ⟨n8, ln8, en8⟩ := okr_of (lo := 2) (hi := 7) (by decide) h7
      subst en8
      refine g_pure 2 (i' := 20) (lv' := [some (vR 800), some (vI (nI n5)), some (vI (nI n8)), some (vI (if P then 1 else 0)), none, none, none]) (st' := [vI 2, vI 0, vR 800]) rfl ?_
      refine gW_eq (st' := [vI (nI 2), vI 0, vR 800]) rfl (by rw [(show (2 : Int32) = nI 2 from rfl)]) rfl ?_
      refine g_cV1 rfl (args := [vR 800, vI 0, vI (nI 2)]) (rest := []) rfl rfl rfl (s_227f (d := d + 2) (by omega)) ?_
      refine g_if1 (i' := 24) (P := 0 = 0) rfl rfl (g_eqN (show 0 = nI 0 from (show (0 : Int32) = nI 0 from rfl)) (show 0 = nI 0 from (show (0 : Int32) = nI 0 from rfl)) (by omega) (by omega)) (fun _ => ?_) (fun h9 => absurd (by omega) h9)
      refine g_pure 5 (i' := 29) (lv' := [some (vR 800), some (vI (nI n5)), some (vI (nI n8)), some (vI (if P then 1 else 0)), some (vI 0), some (vI (-1)), none]) (st' := [vR 800]) rfl ?_
      refine g_cV1 rfl (args := [vR 800]) (rest := []) rfl rfl rfl (s_199 (d := d + 2) hSs1) ?_
      refine g_pure 3 (i' := 33) (lv' := [some (vR 800), some (vI (nI n5)), some (vI (nI n8)), some (vI (if P then 1 else 0)), some (vI 0), some (vI (-1)), some (vI (S 9 - 1))]) (st' := []) rfl ?_
      refine gW_eq (lv' := [some (vR 800), some (vI (nI n5)), some (vI (nI n8)), some (vI (if P then 1 else 0)), some (vI 0), some (vI (-1)), some (vI (nI (sn S 9 - 1)))]) (st' := []) (by rw [(show (S 9 - 1) = nI (sn S 9 - 1) from (g_sub (hI.c9) (show (1 : Int32) = nI 1 from rfl) (by omega)))]) rfl rfl ?_
      exact o2 s1 es1 n5 rfl ln5 n8 rfl ln8
    · refine g_pure 3 (i' := 20) (lv' := [some (vR 800), some (vI (nI n5)), some (vI y), some (vI (if P then 1 else 0)), none, none, none]) (st' := [vI 2, vI 1, vR 800]) rfl ?_
      refine gW_eq (st' := [vI (nI 2), vI 1, vR 800]) rfl (by rw [(show (2 : Int32) = nI 2 from rfl)]) rfl ?_
      refine g_cV1 rfl (args := [vR 800, vI 1, vI (nI 2)]) (rest := []) rfl rfl rfl (s_227t (d := d + 2) (by omega)) ?_
      refine g_setv (fun s10 es10 => ?_)
      have hSs10 : s10 801 = S := by rw [es10, mu_ne (by decide), hSs1]
      refine g_if1 (i' := 24) (P := 1 = 0) rfl rfl (g_eqN (show 1 = nI 1 from (show (1 : Int32) = nI 1 from rfl)) (show 0 = nI 0 from (show (0 : Int32) = nI 0 from rfl)) (by omega) (by omega)) (fun h11 => absurd h11 (by omega)) (fun _ => ?_)
      refine g_pure 1 (i' := 23) (lv' := [some (vR 800), some (vI (nI n5)), some (vI y), some (vI (if P then 1 else 0)), none, none, none]) (st' := [vI 0]) rfl ?_
      refine g_iret rfl ?_
      exact o3 s1 es1 n5 rfl ln5 h7 s10 es10

theorem m_touch {X : Nat × (Nat → Int32)} {d : Nat} {p : Nat → Nat} {sg : Mg} {B : Nat} {S : Nat → Int32} (hI : Inv B S) (hS : sg 801 = S) {x : Int32} {y : Int32} {P : Prop} [Decidable P] : gF X (d + 4) 291 [vR 800, vI x, vI y, vI (if P then 1 else 0)] p sg (oM p sg (touchR S x y P)) := by
  have b0 := hI.b0; have b1 := hI.b1; have b2 := hI.b2; have b3 := hI.b3; have b4 := hI.b4; have b5 := hI.b5; have b9 := hI.b9; have b14 := hI.b14
  refine g_in (cd := k_291) (nL := 7) (rc := 13) rfl (g_A (a := 800) (kd := 0) (n := 12) rfl (by decide)) (g_c1 rfl) (b_291_0 hI hS (fun s1 f1 h2 s3 f3 => oM_x (c := 0) f1 f3 ?_) (fun s1 f1 n2 e2 l2 n3 e3 l3 => l_291_33 hI (show s1 801 = S by rw [f1, mu_ne (by decide)]; exact hS) (by omega) (by omega) (by omega) (oM_0 f1 ?_)) (fun s1 f1 n2 e2 l2 h3 s4 f4 => oM_x (c := 1) f1 f4 ?_))
  · skip
    unfold touchR
    rw [if_neg h2]
  · subst e2 e3
    unfold touchR
    rw [if_pos ((okx_nI (by omega)).mpr (by omega)), if_pos ((okr_nI (by omega) (by omega) (by omega)).mpr l3)]
    try simp (disch := omega) only [nI_clamp]
    try exact congrArg (fun j => ((0, S j) : Nat × Int32)) (by omega)
    try (split <;> first | rfl | contradiction)
    try rfl
  · subst e2
    unfold touchR
    rw [if_pos ((okx_nI (by omega)).mpr (by omega)), if_neg (show ¬ okr y 2 7 from h3)]
