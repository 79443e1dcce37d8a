/-! PLAN: the call (made by wip/whole/gen89g.py) -/
theorem b_102_0 {X : Nat × (Nat → Int32)} {d : Nat} {p : Nat → Nat} {sg : Mg} {Q : am_R → Prop} {B : Nat} {S : Nat → Int32} (hI : Inv B S) (hL : cwL 250 sg S) (hD : cwD 200 sg S) (hW : LW S sg) {k : Nat} {m : Nat} {W : Prop} [Decidable W] (u_k : k ≤ 7) (u_m : m ≤ 255) (q1 : k < sn S 1)
    (o1 : (¬ m = 0) → ∀ s2 : Mg, ((∀ c, c ≠ 8 → c ≠ 9 → s2 c = sg c) ∧ bOK S s2) → ∀ s3 : Mg, s3 = mu s2 8 11 (-1) → gW X (d + 12) k_102 15 [some (vR 8), some (vI (nI k)), some (vI (nI m)), some (vI (if W then 1 else 0)), none, none] [] p s3 Q)
    (o2 : (m = 0) → (¬ W) → Q (gRv p sg (S 8)))
    (o3 : (m = 0) → (W) → Q (gRv p sg (-1))) :
    gW X (d + 12) k_102 0 [some (vR 8), some (vI (nI k)), some (vI (nI m)), some (vI (if W then 1 else 0)), none, none] [] p sg Q := by
  have b0 := hI.b0; have b1 := hI.b1; have b2 := hI.b2; have b3 := hI.b3; have b4 := hI.b4; have b5 := hI.b5; have b6 := hI.b6; have b7 := hI.b7; have b8 := hI.b8; have b9 := hI.b9; have b14 := hI.b14
  refine g_pure 1 (i' := 1) (lv' := [some (vR 8), some (vI (nI k)), some (vI (nI m)), some (vI (if W then 1 else 0)), none, none]) (st' := [vI (nI m)]) rfl ?_
  refine g_if1 (i' := 10) (P := ¬ m = 0) rfl rfl (g_neN (show nI m = nI m from (rfl : nI m = nI m)) (show 0 = nI 0 from (show (0 : Int32) = nI 0 from rfl)) (by omega) (by omega)) (fun h1 => ?_) (fun h1 => ?_)
  · refine g_pure 1 (i' := 11) (lv' := [some (vR 8), some (vI (nI k)), some (vI (nI m)), some (vI (if W then 1 else 0)), none, none]) (st' := [vR 8]) rfl ?_
    refine g_cV0E rfl (args := [vR 8]) (rest := []) rfl rfl rfl (s_82 (d := d + 10) hW) (fun s2 es2 => ?_)
    have hLs2 : cwL 250 s2 S := (hL).eqc (fun c h1 h2 => es2.1 c (by omega) (by omega))
    have hDs2 : cwD 200 s2 S := (hD).eqc (fun c h1 => es2.1 c (by omega) (by omega))
    have hWs2 : LW S s2 := (hW).eqc (fun c h1 h2 => es2.1 c (by omega) (by omega))
    refine g_pure 2 (i' := 14) (lv' := [some (vR 8), some (vI (nI k)), some (vI (nI m)), some (vI (if W then 1 else 0)), none, none]) (st' := [vI (-1), vR 8]) rfl ?_
    refine g_putI rfl (g_A (a := 8) (kd := 0) (n := 9) rfl (by decide)) ?_
    refine g_setv (fun s3 es3 => ?_)
    have hWs3 : LW S s3 := (hWs2).eqc (fun c c1 c2 => by rw [es3, mu_ne (by omega)])
    have hBs3 : bOK S s3 := by rw [es3]; exact es2.2.f11
    have hLs3 : cwL 250 s3 S := by rw [es3]; exact hLs2.out (by decide)
    have hDs3 : cwD 200 s3 S := by rw [es3]; exact hDs2.out (by decide)
    exact o1 h1 s2 es2 s3 es3
  · have h1 := Classical.not_not.mp h1
    refine g_pure 1 (i' := 3) (lv' := [some (vR 8), some (vI (nI k)), some (vI (nI m)), some (vI (if W then 1 else 0)), none, none]) (st' := [vI (if W then 1 else 0)]) rfl ?_
    refine g_if1 (i' := 6) (P := ¬ W) rfl rfl g_eqB (fun h4 => ?_) (fun h4 => ?_)
    · refine g_pure 2 (i' := 8) (lv' := [some (vR 8), some (vI (nI k)), some (vI (nI m)), some (vI (if W then 1 else 0)), none, none]) (st' := [vR 250]) rfl ?_
      refine g_getI rfl (g_A (a := 250) (kd := 0) (n := 6) rfl (by decide)) (show _ = S 8 from hL.f12) ?_
      refine g_iret rfl ?_
      exact o2 h1 h4
    · have h4 := Classical.not_not.mp h4
      refine g_pure 2 (i' := 9) (lv' := [some (vR 8), some (vI (nI k)), some (vI (nI m)), some (vI (if W then 1 else 0)), none, none]) (st' := [vI (-1)]) rfl ?_
      refine g_iret rfl ?_
      exact o3 h1 h4

theorem b_102_15 {X : Nat × (Nat → Int32)} {d : Nat} {p : Nat → Nat} {sg : Mg} {Q : am_R → Prop} {B : Nat} {S : Nat → Int32} (hI : Inv B S) (hL : cwL 250 sg S) (hD : cwD 200 sg S) {k : Nat} {m : Nat} {W : Prop} [Decidable W] (u_k : k ≤ 7) (u_m : m ≤ 255) (q1 : k < sn S 1)
    (o1 : (¬ (aaB S m = true)) → Q (gRv p sg (-1)))
    (o2 : ((aaB S m = true)) → gW X (d + 12) k_102 32 [some (vR 8), some (vI (nI k)), some (vI (nI m)), some (vI (if W then 1 else 0)), some (vI (nI (stN S k))), none] [vI 0, vI (nI (stN S k)), vI (nI (stN S k)), vI (nI (hmN S k)), vI (nI m), vI (nI k), vR 8] p sg Q) :
    gW X (d + 12) k_102 15 [some (vR 8), some (vI (nI k)), some (vI (nI m)), some (vI (if W then 1 else 0)), none, none] [] p sg Q := by
  have b0 := hI.b0; have b1 := hI.b1; have b2 := hI.b2; have b3 := hI.b3; have b4 := hI.b4; have b5 := hI.b5; have b6 := hI.b6; have b7 := hI.b7; have b8 := hI.b8; have b9 := hI.b9; have b14 := hI.b14
  refine g_pure 2 (i' := 17) (lv' := [some (vR 8), some (vI (nI k)), some (vI (nI m)), some (vI (if W then 1 else 0)), none, none]) (st' := [vI (nI k), vR 8]) rfl ?_
  refine g_cV1 rfl (args := [vR 8, vI (nI k)]) (rest := []) rfl rfl rfl (s_86 (d := d + 10) hI hL hD (by omega)) ?_
  have t1 := (hm_ok hI (k := k) (by omega)).2.1
  have t2 := (hm_ok hI (k := k) (by omega)).2.2.1
  refine g_pure 3 (i' := 21) (lv' := [some (vR 8), some (vI (nI k)), some (vI (nI m)), some (vI (if W then 1 else 0)), some (vI (nI (stN S k))), none]) (st' := [vI (nI m), vR 8]) rfl ?_
  refine g_cV1 rfl (args := [vR 8, vI (nI m)]) (rest := []) rfl rfl rfl (s_103 (d := d + 9) hI hL hD (by omega)) ?_
  refine g_if1 (i' := 34) (P := ¬ (aaB S m = true)) rfl rfl g_eqB (fun h3 => ?_) (fun h3 => ?_)
  · refine g_pure 4 (i' := 38) (lv' := [some (vR 8), some (vI (nI k)), some (vI (nI m)), some (vI (if W then 1 else 0)), some (vI (nI (stN S k))), some (vI 2000000000)]) (st' := [vI 2000000000, vI 2000000000]) rfl ?_
    refine g_if2 (i' := 41) (P := ¬ 2000000000 = 2000000000) rfl rfl (g_neN (show 2000000000 = nI 2000000000 from (show (2000000000 : Int32) = nI 2000000000 from rfl)) (show 2000000000 = nI 2000000000 from (show (2000000000 : Int32) = nI 2000000000 from rfl)) (by omega) (by omega)) (fun h4 => absurd h4 (by omega)) (fun _ => ?_)
    refine g_pure 1 (i' := 40) (lv' := [some (vR 8), some (vI (nI k)), some (vI (nI m)), some (vI (if W then 1 else 0)), some (vI (nI (stN S k))), some (vI 2000000000)]) (st' := [vI (-1)]) rfl ?_
    refine g_iret rfl ?_
    exact o1 h3
  · have h3 := Classical.not_not.mp h3
    refine g_pure 5 (i' := 28) (lv' := [some (vR 8), some (vI (nI k)), some (vI (nI m)), some (vI (if W then 1 else 0)), some (vI (nI (stN S k))), none]) (st' := [vI (nI k), vR 8, vI (nI m), vI (nI k), vR 8]) rfl ?_
    refine g_cV1 rfl (args := [vR 8, vI (nI k)]) (rest := [vI (nI m), vI (nI k), vR 8]) rfl rfl rfl (s_84 (d := d + 10) hI hL hD (by omega)) ?_
    have t5 := (hm_ok hI (k := k) (by omega)).1
    refine g_pure 3 (i' := 32) (lv' := [some (vR 8), some (vI (nI k)), some (vI (nI m)), some (vI (if W then 1 else 0)), some (vI (nI (stN S k))), none]) (st' := [vI 0, vI (nI (stN S k)), vI (nI (stN S k)), vI (nI (hmN S k)), vI (nI m), vI (nI k), vR 8]) rfl ?_
    exact o2 h3

theorem b_102_36 {X : Nat × (Nat → Int32)} {d : Nat} {p : Nat → Nat} {sg : Mg} {Q : am_R → Prop} {B : Nat} {S : Nat → Int32} (hI : Inv B S) (hL : cwL 250 sg S) (hD : cwD 200 sg S) {z1 : Option AV} {z2 : Option AV} {W : Prop} [Decidable W] {z4 : Option AV} {x : Nat} (u_x : x ≤ 2000000000)
    (o1 : (¬ x = 2000000000) → (¬ W) → Q (gRv p sg (nI x)))
    (o2 : (¬ x = 2000000000) → (W) → Q (gRv p sg (sg 8 11)))
    (o3 : (x = 2000000000) → Q (gRv p sg (-1))) :
    gW X (d + 12) k_102 36 [some (vR 8), z1, z2, some (vI (if W then 1 else 0)), z4, some (vI (nI x))] [] p sg Q := by
  have b0 := hI.b0; have b1 := hI.b1; have b2 := hI.b2; have b3 := hI.b3; have b4 := hI.b4; have b5 := hI.b5; have b6 := hI.b6; have b7 := hI.b7; have b8 := hI.b8; have b9 := hI.b9; have b14 := hI.b14
  refine g_pure 2 (i' := 38) (lv' := [some (vR 8), z1, z2, some (vI (if W then 1 else 0)), z4, some (vI (nI x))]) (st' := [vI 2000000000, vI (nI x)]) rfl ?_
  refine g_if2 (i' := 41) (P := ¬ x = 2000000000) rfl rfl (g_neN (show nI x = nI x from (rfl : nI x = nI x)) (show 2000000000 = nI 2000000000 from (show (2000000000 : Int32) = nI 2000000000 from rfl)) (by omega) (by omega)) (fun h1 => ?_) (fun h1 => ?_)
  · refine g_pure 1 (i' := 42) (lv' := [some (vR 8), z1, z2, some (vI (if W then 1 else 0)), z4, some (vI (nI x))]) (st' := [vI (if W then 1 else 0)]) rfl ?_
    refine g_if1 (i' := 46) (P := ¬ W) rfl rfl g_eqB (fun h2 => ?_) (fun h2 => ?_)
    · refine g_pure 1 (i' := 47) (lv' := [some (vR 8), z1, z2, some (vI (if W then 1 else 0)), z4, some (vI (nI x))]) (st' := [vI (nI x)]) rfl ?_
      refine g_iret rfl ?_
      exact o1 h1 h2
    · have h2 := Classical.not_not.mp h2
      refine g_pure 3 (i' := 47) (lv' := [some (vR 8), z1, z2, some (vI (if W then 1 else 0)), z4, some (vI (nI x))]) (st' := [vI (sg 8 11)]) rfl ?_
      refine g_iret rfl ?_
      exact o2 h1 h2
  · have h1 := Classical.not_not.mp h1
    refine g_pure 1 (i' := 40) (lv' := [some (vR 8), z1, z2, some (vI (if W then 1 else 0)), z4, some (vI (nI x))]) (st' := [vI (-1)]) rfl ?_
    refine g_iret rfl ?_
    exact o3 h1

theorem b_176_0 {X : Nat × (Nat → Int32)} {d : Nat} {p : Nat → Nat} {sg : Mg} {Q : am_R → Prop} {B : Nat} {S : Nat → Int32} (hI : Inv B S) (hL : cwL 250 sg S) (hD : cwD 200 sg S) {x : Int32} {y : Int32} {W : Prop} [Decidable W]
    (o1 : ∀ n2 : Nat, x = nI n2 → n2 < sn S 1 → gW X (d + 13) k_176 8 [some (vR 0), some (vI (nI n2)), some (vI y), some (vI (if W then 1 else 0)), none] [vI (nI (bset (opn S y) (sn S 5)))] p sg Q)
    (o2 : (¬ okx x (sn S 1)) → Q (gRx p sg 2)) :
    gW X (d + 13) k_176 0 [some (vR 0), some (vI x), some (vI y), some (vI (if W then 1 else 0)), none] [] p sg Q := by
  have b0 := hI.b0; have b1 := hI.b1; have b2 := hI.b2; have b3 := hI.b3; have b4 := hI.b4; have b5 := hI.b5; have b6 := hI.b6; have b7 := hI.b7; have b8 := hI.b8; have b9 := hI.b9; have b14 := hI.b14
  refine g_pure 3 (i' := 3) (lv' := [some (vR 0), some (vI x), some (vI y), some (vI (if W then 1 else 0)), none]) (st' := [vI x, vI 1, vR 0]) rfl ?_
  by_cases h1 : okx x (sn S 1)
  · obtain ⟨n2, ln2, en2⟩ := okx_of h1
    subst en2
    refine gW_eq (st' := [vI (nI n2), vI (nI 1), vR 0]) rfl (by rw [(show (1 : Int32) = nI 1 from rfl)]) rfl ?_
    refine g_cV0 rfl (args := [vR 0, vI (nI 1), vI (nI n2)]) (rest := []) rfl rfl rfl (s_140o (d := d + 11) hI hL hD (by omega) ((okx_nI (by omega)).mpr (by omega))) ?_
    refine g_pure 3 (i' := 7) (lv' := [some (vR 0), some (vI (nI n2)), some (vI y), some (vI (if W then 1 else 0)), none]) (st' := [vI y, vR 200]) rfl ?_
    refine g_cV1 rfl (args := [vR 200, vI y]) (rest := []) rfl rfl rfl (s_108 (d := d + 12) hI hL hD) ?_
    exact o1 n2 rfl ln2
  · refine gW_eq (st' := [vI x, vI (nI 1), vR 0]) rfl (by rw [(show (1 : Int32) = nI 1 from rfl)]) rfl ?_
    refine g_cVx rfl (args := [vR 0, vI (nI 1), vI x]) (rest := []) rfl rfl rfl (s_140x (d := d + 11) hI hL hD (by omega) (by assumption)) ?_
    exact o2 h1

theorem b_176_9 {X : Nat × (Nat → Int32)} {d : Nat} {p : Nat → Nat} {sg : Mg} {Q : am_R → Prop} {B : Nat} {S : Nat → Int32} (hI : Inv B S) (hL : cwL 250 sg S) (hD : cwD 200 sg S) {k : Nat} {z2 : Option AV} {W : Prop} [Decidable W] {m : Nat} (u_k : k ≤ 7) (u_m : m ≤ 255)
    (o1 : (bcI (nI m) ≤ 5) → gW X (d + 13) k_176 15 [some (vR 0), some (vI (nI k)), z2, some (vI (if W then 1 else 0)), some (vI (nI m))] [] p sg Q)
    (o2 : (¬ (bcI (nI m) ≤ 5)) → Q (gRv p sg (-3))) :
    gW X (d + 13) k_176 9 [some (vR 0), some (vI (nI k)), z2, some (vI (if W then 1 else 0)), some (vI (nI m))] [] p sg Q := by
  have b0 := hI.b0; have b1 := hI.b1; have b2 := hI.b2; have b3 := hI.b3; have b4 := hI.b4; have b5 := hI.b5; have b6 := hI.b6; have b7 := hI.b7; have b8 := hI.b8; have b9 := hI.b9; have b14 := hI.b14
  refine g_pure 1 (i' := 10) (lv' := [some (vR 0), some (vI (nI k)), z2, some (vI (if W then 1 else 0)), some (vI (nI m))]) (st' := [vI (nI m)]) rfl ?_
  refine g_cS1 rfl (args := [vI (nI m)]) (rest := []) rfl rfl rfl (s_317 (d := d + 12) ) ?_
  refine g_pure 1 (i' := 12) (lv' := [some (vR 0), some (vI (nI k)), z2, some (vI (if W then 1 else 0)), some (vI (nI m))]) (st' := [vI 5, vI (bcI (nI m))]) rfl ?_
  refine g_if2 (i' := 15) (P := bcI (nI m) ≤ 5) rfl rfl Iff.rfl (fun h1 => ?_) (fun h1 => ?_)
  · exact o1 h1
  · refine g_pure 1 (i' := 14) (lv' := [some (vR 0), some (vI (nI k)), z2, some (vI (if W then 1 else 0)), some (vI (nI m))]) (st' := [vI (-3)]) rfl ?_
    refine g_iret rfl ?_
    exact o2 h1

/-- the tasks of a plan that aren't done -/
def plO (S : Nat → Int32) (y : Int32) : Nat := bset (opn S y) (sn S 5)
noncomputable def plP (S : Nat → Int32) (k O t : Nat) : Bool := @decide (CH S k 5 O (hmN S k) (stN S k) (stN S k) (sn S 8 + t)) (Classical.propDecidable _)
theorem plP_t {S : Nat → Int32} {k O t : Nat} : plP S k O t = true ↔ CH S k 5 O (hmN S k) (stN S k) (stN S k) (sn S 8 + t) := by unfold plP; exact @decide_eq_true_iff _ (Classical.propDecidable _)
theorem plP_f {S : Nat → Int32} {k O t : Nat} : plP S k O t = false ↔ ¬ CH S k 5 O (hmN S k) (stN S k) (stN S k) (sn S 8 + t) := by
  rw [← plP_t]
  cases plP S k O t <;> simp
/-- the least number of dawns -/
noncomputable def plT (S : Nat → Int32) (k O : Nat) : Nat := fnd (plP S k O) 401 0
noncomputable def plD (S : Nat → Int32) (k O x q : Nat) : Bool := @decide (CHq S k 4 O (hmN S k) (stN S k) (stN S k) q x) (Classical.propDecidable _)
theorem plD_t {S : Nat → Int32} {k O x q : Nat} : plD S k O x q = true ↔ CHq S k 4 O (hmN S k) (stN S k) (stN S k) q x := by unfold plD; exact @decide_eq_true_iff _ (Classical.propDecidable _)
theorem plD_f {S : Nat → Int32} {k O x q : Nat} : plD S k O x q = false ↔ ¬ CHq S k 4 O (hmN S k) (stN S k) (stN S k) q x := by
  rw [← plD_t]
  cases plD S k O x q <;> simp
/-- .. and the least task to begin with -/
noncomputable def plQ (S : Nat → Int32) (k O x : Nat) : Nat := fnd (plD S k O x) 8 0
noncomputable def plV (S : Nat → Int32) (k O : Nat) (W : Prop) [Decidable W] : Int32 := if O = 0 then (if W then -1 else S 8) else if aaB S O = true ∧ plT S k O < 401 then (if W then nI (plQ S k O (sn S 8 + plT S k O)) else nI (sn S 8 + plT S k O)) else -1
noncomputable def planR (S : Nat → Int32) (x y : Int32) (W : Prop) [Decidable W] : Nat × Int32 := if okx x (sn S 1) then (0, if 5 < popc 9 (plO S y) then -3 else plV S x.toNatClampNeg (plO S y) W) else (1, 0)
theorem plT_at {S : Nat → Int32} {k O u : Nat} (h : u ≤ 400) (hP : plP S k O u = true) (hn : ∀ t, t < u → plP S k O t = false) : plT S k O = u := fnd_eq (Nat.zero_le _) (by omega) hP (fun j _ hj => hn j hj)
theorem plT_no {S : Nat → Int32} {k O : Nat} (hn : ∀ t, t ≤ 400 → plP S k O t = false) : ¬ plT S k O < 401 := fun h => by
  have h2 := (fnd_spec (plP S k O) 401 0).2.2.2 (by unfold plT at h; omega)
  unfold plT at h
  rw [hn _ (by omega)] at h2
  cases h2
theorem plQ_at {S : Nat → Int32} {k O x u : Nat} (h : u < 8) (hP : plD S k O x u = true) (hn : ∀ t, t < u → plD S k O x t = false) : plQ S k O x = u := fnd_eq (Nat.zero_le _) (by omega) hP (fun j _ hj => hn j hj)
theorem plO_lt {B : Nat} {S : Nat → Int32} (hI : Inv B S) (y : Int32) : plO S y < 256 := bset_up (m := 8) (by have := hI.b5; omega)
theorem s_102 {X : Nat × (Nat → Int32)} {d : Nat} {p : Nat → Nat} {sg : Mg} {B : Nat} {S : Nat → Int32} (hI : Inv B S) (hL : cwL 250 sg S) (hD : cwD 200 sg S) (hW : LW S sg) {k O : Nat} {W : Prop} [Decidable W] (hk : k < sn S 1) (hO : O < 256) : gF X (d + 13) 102 [vR 8, vI (nI k), vI (nI O), vI (if W then 1 else 0)] p sg (fun r => ∃ s, WY sg s ∧ r = gRv p s (plV S k O W)) := by
  have b0 := hI.b0; have b1 := hI.b1; have b5 := hI.b5; have b8 := hI.b8
  refine g_in (cd := k_102) (nL := 6) (rc := 10) rfl (g_A (a := 8) (kd := 0) (n := 9) rfl (by decide)) (g_c1 rfl) (b_102_0 hI hL hD hW (by omega) (by omega) hk (fun hO0 s2 h2 s3 e3 => ?_) (fun h9 hw => ⟨sg, WY.rf sg, by unfold plV; rw [if_pos h9, if_neg hw]⟩) (fun h9 hw => ⟨sg, WY.rf sg, by unfold plV; rw [if_pos h9, if_pos hw]⟩))
  have w3 : WY sg s3 := (WY.bg h2).tr (fun c c1 _ _ _ => by rw [e3, mu_ne (by omega)])
  have hB3 : bOK S s3 := by rw [e3]; exact h2.2.f11
  refine b_102_15 hI (w3.L hL) (w3.D hD) (by omega) (by omega) hk (fun ha => ?_) (fun ha => ?_)
  · refine ⟨s3, w3, ?_⟩
    unfold plV
    rw [if_neg hO0, if_neg (fun h => ha h.1)]
  obtain ⟨m1, m2, m3, _⟩ := hm_ok hI hk
  refine g_calV rfl (args := [vR 8, vI (nI k), vI (nI O), vI (nI (hmN S k)), vI (nI (stN S k)), vI (nI (stN S k)), vI 0]) (rest := []) rfl rfl (Nat.zero_le _) (s_104 hI hk 5 0 O (hmN S k) (stN S k) (stN S k) d s3 rfl (w3.L hL) (w3.D hD) (w3.W hW) hB3 hO m1 m2 (by omega) (fun h => absurd h hO0) (by omega) (fun _ => hO0)) (fun q hq => ?_)
  obtain ⟨s, x, ⟨f4, _, h5, h6⟩, rfl⟩ := hq
  refine gK_v ?_
  have w4 : WY sg s := w3.tr (fun c c1 c2 c3 c4 => f4.1 c (by omega) (by omega) (by omega) c3 c4 (by omega))
  have hxl := h5.le (by omega)
  refine g_pure 2 (i' := 36) (lv' := [some (vR 8), some (vI (nI k)), some (vI (nI O)), some (vI (if W then 1 else 0)), some (vI (nI (stN S k))), some (vI (nI x))]) (st' := []) rfl ?_
  have hpos : ¬ x = 2000000000 → plT S k O = x - sn S 8 ∧ plT S k O < 401 ∧ sn S 8 + plT S k O = x := fun hx => by
    obtain ⟨g1, g2, g3⟩ := h5.resolve_left (fun g => hx g.1)
    have g4 := g2.ge
    have : plT S k O = x - sn S 8 := plT_at (by omega) (plP_t.mpr (by rw [show sn S 8 + (x - sn S 8) = x by omega]; exact g2)) (fun t ht => plP_f.mpr (fun g => by have := g3 _ g; omega))
    omega
  refine b_102_36 hI (w4.L hL) (w4.D hD) hxl (fun hx hw => ⟨s, w4, ?_⟩) (fun hx hw => ⟨s, w4, ?_⟩) (fun hx => ⟨s, w4, ?_⟩)
  · obtain ⟨_, p2, p3⟩ := hpos hx
    unfold plV
    rw [if_neg hO0, if_pos ⟨ha, p2⟩, if_neg hw, p3]
  · obtain ⟨_, p2, p3⟩ := hpos hx
    obtain ⟨m, em, q0, r1, r2, r3, r4⟩ := h6 rfl hx
    have em : m = 4 := by omega
    subst em
    have : plQ S k O x = q0 := plQ_at (by omega) (plD_t.mpr r3) (fun t ht => plD_f.mpr (r4 t ht))
    unfold plV
    rw [if_neg hO0, if_pos ⟨ha, p2⟩, if_pos hw, p3, this, r2]
  · unfold plV
    rw [if_neg hO0, if_neg]
    intro g
    refine plT_no (fun t ht => plP_f.mpr (fun g => ?_)) g.2
    rcases h5 with ⟨_, h5⟩ | h5
    · exact h5 _ (by omega) g
    · omega
theorem c_plan {X : Nat × (Nat → Int32)} {d : Nat} {p : Nat → Nat} {sg : Mg} {B : Nat} {A : AS} (hI : RI B A) (hR : RC A p sg) {x y : Int32} {W : Prop} [Decidable W] : gF X (d + 14) 176 [vR 0, vI x, vI y, vI (if W then 1 else 0)] p sg (cR A A (fun _ => 2) (planR A.S x y W) sg) := by
  have b1 := hI.1.b1
  have hO := plO_lt hI.1 y
  refine g_in (cd := k_176) (nL := 5) (rc := 12) rfl (g_A (a := 0) (kd := 0) (n := 11) rfl (by decide)) (g_c1 rfl) (b_176_0 hI.1 hR.2.1.1 hR.2.1.2.1 (fun k ek hk => ?_) (fun h => ?_))
  · subst ek
    have e1 : planR A.S (nI k) y W = (0, if 5 < popc 9 (plO A.S y) then -3 else plV A.S k (plO A.S y) W) := by
      unfold planR
      rw [if_pos ((okx_nI (by omega)).mpr (by omega)), nI_clamp (by omega)]
    rw [e1]
    refine g_pure 1 (i' := 9) (lv' := [some (vR 0), some (vI (nI k)), some (vI y), some (vI (if W then 1 else 0)), some (vI (nI (plO A.S y)))]) (st' := []) rfl ?_
    have e2 : bcI (nI (plO A.S y)) = nI (popc 9 (plO A.S y)) := bcI_nI _ (by omega)
    have e3 : popc 9 (plO A.S y) ≤ 9 := by rw [popc_cnt]; exact cnt_le _ _
    have e4 : bcI (nI (plO A.S y)) ≤ 5 ↔ popc 9 (plO A.S y) ≤ 5 := by
      rw [e2]; exact nI_leI (b := 5) (by omega) (by omega)
    refine b_176_9 hI.1 hR.2.1.1 hR.2.1.2.1 (by omega) (by omega) (fun h => ?_) (fun h => ?_)
    · rw [show (if 5 < popc 9 (plO A.S y) then (-3 : Int32) else plV A.S k (plO A.S y) W) = plV A.S k (plO A.S y) W from if_neg (by have := e4.mp h; omega)]
      refine g_pure 5 (i' := 20) (lv' := [some (vR 0), some (vI (nI k)), some (vI y), some (vI (if W then 1 else 0)), some (vI (nI (plO A.S y)))]) (st' := [vI (if W then 1 else 0), vI (nI (plO A.S y)), vI (nI k), vR 8]) rfl ?_
      refine g_cV1E rfl (args := [vR 8, vI (nI k), vI (nI (plO A.S y)), vI (if W then 1 else 0)]) (rest := []) rfl rfl rfl (s_102 (d := d) hI.1 hR.2.1.1 hR.2.1.2.1 (hR.W hI) hk hO) (fun s h9 => ?_)
      exact g_iret rfl (cR_v (hR.wy hI h9) (fun c hc => h9 c (by omega) (by omega) (by omega) (by omega)) rfl)
    · rw [show (if 5 < popc 9 (plO A.S y) then (-3 : Int32) else plV A.S k (plO A.S y) W) = -3 from if_pos (by rw [e4] at h; omega)]
      exact cR_v hR (fun _ _ => rfl) rfl
  · refine cR_x hR (fun _ _ => rfl) (c := 0) ?_ rfl
    unfold planR
    rw [if_neg h]
