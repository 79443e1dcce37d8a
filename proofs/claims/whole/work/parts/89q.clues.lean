/-! CLUES: what is read of the tape (made by wip/whole/gen89q.py) -/
theorem b_80_0 {X : Nat × (Nat → Int32)} {d : Nat} {p : Nat → Nat} {sg : Mg} {Q : am_R → Prop} {n : Nat} (u_n : n ≤ 400) (kn_1_2 : sg 1 2 = nI n) {i : Nat} (u_i : i ≤ 399)
    (o1 : (n ≤ i) → Q (gRv p sg 0))
    (o2 : (¬ (n ≤ i)) → Q (gRv p sg (sg 2 i &&& 255))) :
    gW X (d + 1) k_80 0 [some (vR 1), some (vI (nI i))] [] p sg Q := by
  refine g_pure 1 (i' := 1) (lv' := [some (vR 1), some (vI (nI i))]) (st' := [vI (nI i)]) rfl ?_
  refine g_if1 (i' := 13) (P := i < 0) rfl rfl (g_ltN (show nI i = nI i from (rfl : nI i = nI i)) (show 0 = nI 0 from (show (0 : Int32) = nI 0 from rfl)) (by omega) (by omega)) (fun h1 => absurd h1 (by omega)) (fun _ => ?_)
  refine g_pure 2 (i' := 4) (lv' := [some (vR 1), some (vI (nI i))]) (st' := [vR 1, vI (nI i)]) rfl ?_
  refine g_getI rfl (g_A (a := 1) (kd := 0) (n := 8) rfl (by decide)) (show _ = nI n from kn_1_2) ?_
  refine g_if2 (i' := 13) (P := n ≤ i) rfl rfl (g_geN (show nI i = nI i from (rfl : nI i = nI i)) (show nI n = nI n from (rfl : nI n = nI n)) (by omega) (by omega)) (fun h2 => ?_) (fun h2 => ?_)
  · refine g_pure 1 (i' := 14) (lv' := [some (vR 1), some (vI (nI i))]) (st' := [vI 0]) rfl ?_
    refine g_iret rfl ?_
    exact o1 h2
  · refine g_pure 3 (i' := 9) (lv' := [some (vR 1), some (vI (nI i))]) (st' := [vI (nI i), vR 2]) rfl ?_
    refine g_bald rfl (by decide) (g_A (a := 2) (kd := 2) (n := 400) rfl (by decide)) (by decide) (show nI i = nI i from (rfl : nI i = nI i)) (by omega) (show _ = sg 2 i from rfl) ?_
    refine g_pure 3 (i' := 14) (lv' := [some (vR 1), some (vI (nI i))]) (st' := [vI (sg 2 i &&& 255)]) rfl ?_
    refine g_iret rfl ?_
    exact o2 h2

theorem b_0_4 {X : Nat × (Nat → Int32)} {d : Nat} {p : Nat → Nat} {sg : Mg} {Q : am_R → Prop} {e : Nat} (u_e : e ≤ 16)
    (o1 : gW X (d + 2) k_0 6 [some (vR 16), some (vR 1), some (vI (nI e)), some (vI 0)] [] p sg Q) :
    gW X (d + 2) k_0 4 [some (vR 16), some (vR 1), some (vI (nI e)), none] [] p sg Q := by
  refine g_pure 2 (i' := 6) (lv' := [some (vR 16), some (vR 1), some (vI (nI e)), some (vI 0)]) (st' := []) rfl ?_
  exact o1

theorem b_0_6 {X : Nat × (Nat → Int32)} {d : Nat} {p : Nat → Nat} {sg : Mg} {Q : am_R → Prop} {n : Nat} (u_n : n ≤ 400) (kn_16_4 : sg 16 4 = nI n) {e : Nat} {i : Nat} (u_e : e ≤ 16) (u_i : i ≤ 400)
    (o1 : (n ≤ i) → (¬ (n % 3) = 0) → Q (gRv p sg 0))
    (o2 : (n ≤ i) → ((n % 3) = 0) → Q (gRv p sg 1))
    (o3 : (¬ (n ≤ i)) → gW X (d + 2) k_0 20 [some (vR 16), some (vR 1), some (vI (nI e)), some (vI (nI i))] [vI (nI i), vR 1, vI (nI i), vR 17] p sg Q) :
    gW X (d + 2) k_0 6 [some (vR 16), some (vR 1), some (vI (nI e)), some (vI (nI i))] [] p sg Q := by
  refine g_pure 2 (i' := 8) (lv' := [some (vR 16), some (vR 1), some (vI (nI e)), some (vI (nI i))]) (st' := [vR 16, vI (nI i)]) rfl ?_
  refine g_getI rfl (g_A (a := 16) (kd := 0) (n := 0) rfl (by decide)) (show _ = nI n from kn_16_4) ?_
  refine g_if2 (i' := 32) (P := n ≤ i) rfl rfl (g_geN (show nI i = nI i from (rfl : nI i = nI i)) (show nI n = nI n from (rfl : nI n = nI n)) (by omega) (by omega)) (fun h1 => ?_) (fun h1 => ?_)
  · refine g_pure 1 (i' := 33) (lv' := [some (vR 16), some (vR 1), some (vI (nI e)), some (vI (nI i))]) (st' := [vR 16]) rfl ?_
    refine g_getI rfl (g_A (a := 16) (kd := 0) (n := 0) rfl (by decide)) (show _ = nI n from kn_16_4) ?_
    refine g_pure 1 (i' := 35) (lv' := [some (vR 16), some (vR 1), some (vI (nI e)), some (vI (nI i))]) (st' := [vI 3, vI (nI n)]) rfl ?_
    refine g_rem rfl (g_nz (show (3 : Int32) = nI 3 from rfl) (by omega) (by omega)) ?_
    have t2 : (n % 3) < 3 := Nat.mod_lt _ (by omega)
    refine gW_eq (lv' := [some (vR 16), some (vR 1), some (vI (nI e)), some (vI (nI i))]) (st' := [vI (nI (n % 3))]) rfl (by rw [(show (nI n - nI n / 3 * 3) = nI (n % 3) from (g_modN (rfl : nI n = nI n) (show (3 : Int32) = nI 3 from rfl) (by omega) (by omega) (by omega)))]) rfl ?_
    refine g_if1 (i' := 39) (P := ¬ (n % 3) = 0) rfl rfl (g_neN (show nI (n % 3) = nI (n % 3) from (rfl : nI (n % 3) = nI (n % 3))) (show 0 = nI 0 from (show (0 : Int32) = nI 0 from rfl)) (by omega) (by omega)) (fun h3 => ?_) (fun h3 => ?_)
    · refine g_pure 1 (i' := 40) (lv' := [some (vR 16), some (vR 1), some (vI (nI e)), some (vI (nI i))]) (st' := [vI 0]) rfl ?_
      refine g_bret rfl g_nar0 ?_
      exact o1 h1 h3
    · have h3 := Classical.not_not.mp h3
      refine g_pure 2 (i' := 40) (lv' := [some (vR 16), some (vR 1), some (vI (nI e)), some (vI (nI i))]) (st' := [vI 1]) rfl ?_
      refine g_bret rfl g_nar1 ?_
      exact o2 h1 h3
  · refine g_pure 3 (i' := 13) (lv' := [some (vR 16), some (vR 1), some (vI (nI e)), some (vI (nI i))]) (st' := [vR 17, vI (nI i)]) rfl ?_
    refine g_len rfl (by decide) (by decide) (g_A (a := 17) (kd := 1) (n := 400) rfl (by decide)) ?_
    refine gW_eq (lv' := [some (vR 16), some (vR 1), some (vI (nI e)), some (vI (nI i))]) (st' := [vI 400, vI (nI i)]) rfl (by rw [(show (nI 400 : Int32) = 400 from rfl)]) rfl ?_
    refine g_if2 (i' := 32) (P := 400 ≤ i) rfl rfl (g_geN (show nI i = nI i from (rfl : nI i = nI i)) (show 400 = nI 400 from (show (400 : Int32) = nI 400 from rfl)) (by omega) (by omega)) (fun h4 => absurd h4 (by omega)) (fun _ => ?_)
    refine g_pure 5 (i' := 20) (lv' := [some (vR 16), some (vR 1), some (vI (nI e)), some (vI (nI i))]) (st' := [vI (nI i), vR 1, vI (nI i), vR 17]) rfl ?_
    exact o3 h1

theorem b_0_22 {X : Nat × (Nat → Int32)} {d : Nat} {p : Nat → Nat} {sg : Mg} {Q : am_R → Prop} {x : Nat} {e : Nat} {i : Nat} (u_e : e ≤ 16) (u_i : i ≤ 399) (hx : sg 17 i = nI x) (u_x : x ≤ 255)
    (o1 : (x < e) → gW X (d + 2) k_0 6 [some (vR 16), some (vR 1), some (vI (nI e)), some (vI (nI (i + 1)))] [] p sg Q)
    (o2 : (¬ (x < e)) → Q (gRv p sg 0)) :
    gW X (d + 2) k_0 22 [some (vR 16), some (vR 1), some (vI (nI e)), some (vI (nI i))] [] p sg Q := by
  refine g_pure 3 (i' := 25) (lv' := [some (vR 16), some (vR 1), some (vI (nI e)), some (vI (nI i))]) (st' := [vI (nI i), vR 17]) rfl ?_
  refine g_ald rfl (g_A (a := 17) (kd := 1) (n := 400) rfl (by decide)) (by decide) (show nI i = nI i from (rfl : nI i = nI i)) (by omega) (show _ = nI x from hx) ?_
  refine g_pure 1 (i' := 27) (lv' := [some (vR 16), some (vR 1), some (vI (nI e)), some (vI (nI i))]) (st' := [vI (nI e), vI (nI x)]) rfl ?_
  refine g_if2 (i' := 30) (P := x < e) rfl rfl (g_ltN (show nI x = nI x from (rfl : nI x = nI x)) (show nI e = nI e from (rfl : nI e = nI e)) (by omega) (by omega)) (fun h1 => ?_) (fun h1 => ?_)
  · refine g_pure 2 (i' := 6) (lv' := [some (vR 16), some (vR 1), some (vI (nI e)), some (vI (nI i + 1))]) (st' := []) rfl ?_
    refine gW_eq (lv' := [some (vR 16), some (vR 1), some (vI (nI e)), some (vI (nI (i + 1)))]) (st' := []) (by rw [(show (nI i + 1) = nI (i + 1) from ((g_add (rfl : nI i = nI i) (show (1 : Int32) = nI 1 from rfl))).trans (congrArg nI (by omega)))]) rfl rfl ?_
    exact o1 h1
  · refine g_pure 1 (i' := 29) (lv' := [some (vR 16), some (vR 1), some (vI (nI e)), some (vI (nI i))]) (st' := [vI 0]) rfl ?_
    refine g_bret rfl g_nar0 ?_
    exact o2 h1

theorem b_295_2 {X : Nat × (Nat → Int32)} {d : Nat} {p : Nat → Nat} {sg : Mg} {Q : am_R → Prop} {B : Nat} {S : Nat → Int32} (hI : Inv B S) (hS : sg 801 = S) {n : Nat} (u_n : n ≤ 400) (kn_800_10 : sg 800 10 = nI n)
    (o1 : (¬ (n % 3) = 0) → gW X (d + 3) k_295 10 [some (vR 800), none, none] [vI 0] p sg Q)
    (o2 : ((n % 3) = 0) → gW X (d + 3) k_295 10 [some (vR 800), none, none] [vI 1] p sg Q) :
    gW X (d + 3) k_295 2 [some (vR 800), none, none] [] p sg Q := by
  have b0 := hI.b0; have b1 := hI.b1; have b2 := hI.b2; have b3 := hI.b3; have b4 := hI.b4; have b5 := hI.b5; have b6 := hI.b6; have b7 := hI.b7; have b8 := hI.b8; have b9 := hI.b9; have b14 := hI.b14
  refine g_pure 1 (i' := 3) (lv' := [some (vR 800), none, none]) (st' := [vR 800]) rfl ?_
  refine g_getI rfl (g_A (a := 800) (kd := 0) (n := 12) rfl (by decide)) (show _ = nI n from kn_800_10) ?_
  refine g_pure 1 (i' := 5) (lv' := [some (vR 800), none, none]) (st' := [vI 3, vI (nI n)]) rfl ?_
  refine g_rem rfl (g_nz (show (3 : Int32) = nI 3 from rfl) (by omega) (by omega)) ?_
  have t1 : (n % 3) < 3 := Nat.mod_lt _ (by omega)
  refine gW_eq (lv' := [some (vR 800), none, none]) (st' := [vI (nI (n % 3))]) rfl (by rw [(show (nI n - nI n / 3 * 3) = nI (n % 3) from (g_modN (rfl : nI n = nI n) (show (3 : Int32) = nI 3 from rfl) (by omega) (by omega) (by omega)))]) rfl ?_
  refine g_if1 (i' := 9) (P := ¬ (n % 3) = 0) rfl rfl (g_neN (show nI (n % 3) = nI (n % 3) from (rfl : nI (n % 3) = nI (n % 3))) (show 0 = nI 0 from (show (0 : Int32) = nI 0 from rfl)) (by omega) (by omega)) (fun h2 => ?_) (fun h2 => ?_)
  · refine g_pure 1 (i' := 10) (lv' := [some (vR 800), none, none]) (st' := [vI 0]) rfl ?_
    exact o1 h2
  · have h2 := Classical.not_not.mp h2
    refine g_pure 2 (i' := 10) (lv' := [some (vR 800), none, none]) (st' := [vI 1]) rfl ?_
    exact o2 h2

theorem b_295_13 {X : Nat × (Nat → Int32)} {d : Nat} {p : Nat → Nat} {sg : Mg} {Q : am_R → Prop} {B : Nat} {S : Nat → Int32} (hI : Inv B S) (hS : sg 801 = S) {n : Nat} (u_n : n ≤ 400) (kn_800_10 : sg 800 10 = nI n) {W : Prop} [Decidable W] {i : Nat} (u_i : i ≤ 400)
    (o1 : (n ≤ i) → Q (gRv p sg (if W then 1 else 0)))
    (o2 : (¬ (n ≤ i)) → (¬ W) → gW X (d + 3) k_295 13 [some (vR 800), some (vI 0), some (vI (nI (i + 1)))] [] p sg Q)
    (o3 : (¬ (n ≤ i)) → (W) → (¬ okx (sg 805 i) (sn S 9)) → gW X (d + 3) k_295 13 [some (vR 800), some (vI 0), some (vI (nI (i + 1)))] [] p sg Q)
    (o4 : (¬ (n ≤ i)) → (W) → (okx (sg 805 i) (sn S 9)) → gW X (d + 3) k_295 13 [some (vR 800), some (vI 1), some (vI (nI (i + 1)))] [] p sg Q) :
    gW X (d + 3) k_295 13 [some (vR 800), some (vI (if W then 1 else 0)), some (vI (nI i))] [] p sg Q := by
  have b0 := hI.b0; have b1 := hI.b1; have b2 := hI.b2; have b3 := hI.b3; have b4 := hI.b4; have b5 := hI.b5; have b6 := hI.b6; have b7 := hI.b7; have b8 := hI.b8; have b9 := hI.b9; have b14 := hI.b14
  refine g_pure 2 (i' := 15) (lv' := [some (vR 800), some (vI (if W then 1 else 0)), some (vI (nI i))]) (st' := [vR 800, vI (nI i)]) rfl ?_
  refine g_getI rfl (g_A (a := 800) (kd := 0) (n := 12) rfl (by decide)) (show _ = nI n from kn_800_10) ?_
  refine g_if2 (i' := 32) (P := n ≤ i) rfl rfl (g_geN (show nI i = nI i from (rfl : nI i = nI i)) (show nI n = nI n from (rfl : nI n = nI n)) (by omega) (by omega)) (fun h1 => ?_) (fun h1 => ?_)
  · refine g_pure 1 (i' := 33) (lv' := [some (vR 800), some (vI (if W then 1 else 0)), some (vI (nI i))]) (st' := [vI (if W then 1 else 0)]) rfl ?_
    refine g_bret rfl g_narB ?_
    exact o1 h1
  · refine g_pure 1 (i' := 18) (lv' := [some (vR 800), some (vI (if W then 1 else 0)), some (vI (nI i))]) (st' := [vI (if W then 1 else 0)]) rfl ?_
    refine g_if1 (i' := 28) (P := ¬ W) rfl rfl g_eqB (fun h2 => ?_) (fun h2 => ?_)
    · refine g_pure 4 (i' := 13) (lv' := [some (vR 800), some (vI 0), some (vI (nI i + 1))]) (st' := []) rfl ?_
      refine gW_eq (lv' := [some (vR 800), some (vI 0), some (vI (nI (i + 1)))]) (st' := []) (by rw [(show (nI i + 1) = nI (i + 1) from ((g_add (rfl : nI i = nI i) (show (1 : Int32) = nI 1 from rfl))).trans (congrArg nI (by omega)))]) rfl rfl ?_
      exact o2 h1 h2
    · have h2 := Classical.not_not.mp h2
      refine g_pure 4 (i' := 23) (lv' := [some (vR 800), some (vI (if W then 1 else 0)), some (vI (nI i))]) (st' := [vI (nI i), vR 805, vR 800]) rfl ?_
      refine g_bald rfl (by decide) (g_A (a := 805) (kd := 2) (n := 400) rfl (by decide)) (by decide) (show nI i = nI i from (rfl : nI i = nI i)) (by omega) (show _ = sg 805 i from rfl) ?_
      refine g_cV1 rfl (args := [vR 800, vI (sg 805 i)]) (rest := []) rfl rfl rfl (s_234 (d := d + 1) hI hS) ?_
      refine g_if1 (i' := 28) (P := ¬ okx (sg 805 i) (sn S 9)) rfl rfl g_neB (fun h3 => ?_) (fun h3 => ?_)
      · refine g_pure 4 (i' := 13) (lv' := [some (vR 800), some (vI 0), some (vI (nI i + 1))]) (st' := []) rfl ?_
        refine gW_eq (lv' := [some (vR 800), some (vI 0), some (vI (nI (i + 1)))]) (st' := []) (by rw [(show (nI i + 1) = nI (i + 1) from ((g_add (rfl : nI i = nI i) (show (1 : Int32) = nI 1 from rfl))).trans (congrArg nI (by omega)))]) rfl rfl ?_
        exact o3 h1 h2 h3
      · have h3 := Classical.not_not.mp h3
        refine g_pure 5 (i' := 13) (lv' := [some (vR 800), some (vI 1), some (vI (nI i + 1))]) (st' := []) rfl ?_
        refine gW_eq (lv' := [some (vR 800), some (vI 1), some (vI (nI (i + 1)))]) (st' := []) (by rw [(show (nI i + 1) = nI (i + 1) from ((g_add (rfl : nI i = nI i) (show (1 : Int32) = nI 1 from rfl))).trans (congrArg nI (by omega)))]) rfl rfl ?_
        exact o4 h1 h2 h3

def bytB (v : Int32) (e : Nat) : Bool := decide (v &&& 255 = nI (v &&& 255).toNatClampNeg) && decide ((v &&& 255).toNatClampNeg ≤ 255) && (decide ((v &&& 255).toNatClampNeg < e) == decide (okx v e)) && (!decide (okx v e) || decide (v = nI (v &&& 255).toNatClampNeg))
theorem byt_all : ∀ n, n < 256 → ∀ e, e < 17 → bytB ((Int8.ofBitVec (BitVec.ofNat 8 n)).toInt32) e = true := by decide +kernel
/-- a byte as the class reads it -/
theorem byt_ok {v : Int32} (hv : vp_nar .byte v = v) {e : Nat} (he : e ≤ 16) : ∃ x, v &&& 255 = nI x ∧ x ≤ 255 ∧ (x < e ↔ okx v e) ∧ (x < e → v = nI x) := by
  have h1 : v = (Int8.ofBitVec (BitVec.ofNat 8 v.toInt8.toBitVec.toNat)).toInt32 := by
    rw [BitVec.ofNat_toNat, BitVec.setWidth_eq]
    exact hv.symm
  have h2 := byt_all v.toInt8.toBitVec.toNat v.toInt8.toBitVec.isLt e (by omega)
  rw [← h1] at h2
  unfold bytB at h2
  rw [Bool.and_eq_true, Bool.and_eq_true, Bool.and_eq_true] at h2
  obtain ⟨⟨⟨a1, a2⟩, a3⟩, a4⟩ := h2
  have a3 : decide ((v &&& 255).toNatClampNeg < e) = decide (okx v e) := by simpa using a3
  have a5 : (v &&& 255).toNatClampNeg < e ↔ okx v e := ⟨fun h => of_decide_eq_true (a3 ▸ decide_eq_true h), fun h => of_decide_eq_true (a3.symm ▸ decide_eq_true h)⟩
  refine ⟨_, of_decide_eq_true a1, of_decide_eq_true a2, a5, fun h => ?_⟩
  rw [decide_eq_true (a5.mp h)] at a4
  exact of_decide_eq_true (by simpa using a4)
/-- the clues are well made -/
def clP (A : AS) : Prop := A.tl % 3 = 0 ∧ ∀ i, i < A.tl → okx (A.T i) (sn A.S 9)
noncomputable def clD (A : AS) : Bool := @decide (clP A) (Classical.propDecidable _)
theorem clD_t {A : AS} (h : clP A) : clD A = true := @decide_eq_true _ (Classical.propDecidable _) h
theorem clD_f {A : AS} (h : ¬ clP A) : clD A = false := @decide_eq_false _ (Classical.propDecidable _) h
def useA (A : AS) : AS := A.tape A.T 0
/-- what reading clues leaves in the class -/
def clC (A : AS) (sg s : Mg) : Prop := (∀ c, c ≠ 1 → c ≠ 16 → c ≠ 17 → s c = sg c) ∧ (∀ f, f ≠ 1 → f ≠ 2 → s 1 f = sg 1 f) ∧ s 1 1 = nI 0 ∧ (∀ f, f ≠ 4 → s 16 f = sg 16 f) ∧ s 16 4 = nI A.tl
theorem s_0 {X : Nat × (Nat → Int32)} {d : Nat} {p : Nat → Nat} {sg : Mg} {B : Nat} {A : AS} (hI : RI B A) (hR : RC A p sg) {e : Nat} (ee : e = sn A.S 9) : gF X (d + 3) 0 [vR 16, vR 1, vI (nI e)] p sg (fun r => ∃ s, (clC A sg s ∧ (clP A → ∀ i, i < A.tl → s 17 i = A.T i)) ∧ r = gRv p s (if clD A = true then 1 else 0)) := by
  have b9 := hI.1.b9
  have ht := hI.2.2.2.2.2.2.1
  have hB := hI.2.2.2.2.2.2.2
  have h7 := hR.2.2.2.2.2.2.1
  have h8 := hR.2.2.2.2.2.2.2.1
  refine g_in (cd := k_0) (nL := 4) (rc := 1) rfl (g_A (a := 16) (kd := 0) (n := 0) rfl (by decide)) (g_c1 rfl) ?_
  show gW X (d + 2) k_0 0 [some (vR 16), some (vR 1), some (vI (nI e)), none] [] p sg _
  refine g_pure 2 (i' := 2) (lv' := [some (vR 16), some (vR 1), some (vI (nI e)), none]) (st' := [vR 1, vR 16]) rfl ?_
  refine g_cV1E (p' := p) (P := fun s => (∀ c, c ≠ 1 → s c = sg c) ∧ (∀ f, f ≠ 1 → f ≠ 2 → s 1 f = sg 1 f) ∧ s 1 1 = nI 0 ∧ s 1 2 = nI A.tl) rfl (args := [vR 1]) (rest := [vR 16]) rfl rfl rfl (v := nI A.tl) ?_ (fun s1 h1 => ?_)
  · refine g_in (cd := k_69) (nL := 1) (rc := 9) rfl (g_A (a := 1) (kd := 0) (n := 8) rfl (by decide)) (g_c1 rfl) (b_69_0 (d := d) ht h7 (fun s1 e1 s2 e2 => ?_))
    refine ⟨s2, ⟨fun c hc => by rw [e2, mu_ne hc, e1, mu_ne hc], fun f c1 c2 => by rw [e2, mu_idx c1, e1, mu_idx c2], by rw [e2, mu_self]; rfl, by rw [e2, mu_idx (by decide), e1, mu_self]⟩, ?_⟩
    rw [e2, mu_idx (by decide), e1, mu_self]
  refine g_putI rfl (g_A (a := 16) (kd := 0) (n := 0) rfl (by decide)) ?_
  have c0 : clC A sg (mu s1 16 4 (nI A.tl)) := ⟨fun c c1 c2 c3 => by rw [mu_ne c2]; exact h1.1 c c1, fun f g1 g2 => by rw [mu_ne (by decide)]; exact h1.2.1 f g1 g2, by rw [mu_ne (by decide)]; exact h1.2.2.1, fun f hf => by rw [mu_idx hf, h1.1 16 (by decide)], by rw [mu_self]⟩
  have k0 : (mu s1 16 4 (nI A.tl)) 1 2 = nI A.tl := by rw [mu_ne (by decide)]; exact h1.2.2.2
  generalize mu s1 16 4 (nI A.tl) = s2 at c0 k0
  refine b_0_4 (by omega) ?_
  have bad : ∀ s, clC A sg s → ¬ clP A → ∃ s', (clC A sg s' ∧ (clP A → ∀ i, i < A.tl → s' 17 i = A.T i)) ∧ gRv p s 0 = gRv p s' (if clD A = true then 1 else 0) := fun s hs h => ⟨s, ⟨hs, fun g => absurd g h⟩, by rw [clD_f h]; rfl⟩
  have key := g_upI (P := fun i => ∀ s, clC A sg s → s 1 2 = nI A.tl → (∀ j, j < i → s 17 j = A.T j ∧ okx (A.T j) (sn A.S 9)) → gW X (d + 2) k_0 6 [some (vR 16), some (vR 1), some (vI (nI e)), some (vI (nI i))] [] p s (fun r => ∃ s, (clC A sg s ∧ (clP A → ∀ i, i < A.tl → s 17 i = A.T i)) ∧ r = gRv p s (if clD A = true then 1 else 0))) (I := fun _ => True) (n := A.tl) (a := 0) (by omega) trivial ?_ ?_
  · exact key s2 c0 k0 (fun j hj => absurd hj (Nat.not_lt_zero _))
  · intro i _ hi _ ih s hs k1 hT
    refine b_0_6 ht hs.2.2.2.2 (by omega) (by omega) (fun h => by omega) (fun h => by omega) (fun _ => ?_)
    refine g_cV1 rfl (args := [vR 1, vI (nI i)]) (rest := [vI (nI i), vR 17]) rfl rfl rfl (g_in (cd := k_80) (nL := 2) (rc := 9) rfl (g_A (a := 1) (kd := 0) (n := 8) rfl (by decide)) (g_c1 rfl) (b_80_0 (d := d) (Q := fun r => r = gRv p s (s 2 i &&& 255)) ht k1 (by omega) (fun h => by omega) (fun _ => rfl))) ?_
    obtain ⟨x, x1, x2, x3, x4⟩ := byt_ok (hB i hi) (e := e) (by omega)
    rw [show s 2 i = A.T i by rw [hs.1 2 (by decide) (by decide) (by decide)]; exact h8 i hi, x1]
    refine g_ast rfl (g_A (a := 17) (kd := 1) (n := 400) rfl (by decide)) (by decide) rfl (by omega) ?_
    have c1 : clC A sg (mu s 17 i (nI x)) := ⟨fun c c1 c2 c3 => by rw [mu_ne c3]; exact hs.1 c c1 c2 c3, fun f g1 g2 => by rw [mu_ne (by decide)]; exact hs.2.1 f g1 g2, by rw [mu_ne (by decide)]; exact hs.2.2.1, fun f hf => by rw [mu_ne (by decide)]; exact hs.2.2.2.1 f hf, by rw [mu_ne (by decide)]; exact hs.2.2.2.2⟩
    refine b_0_22 (x := x) (by omega) (by omega) mu_self x2 (fun h => ?_) (fun h => bad _ c1 (fun g => h (x3.mpr (by rw [ee]; exact g.2 i hi))))
    refine ih trivial _ c1 (by rw [mu_ne (by decide)]; exact k1) (fun j hj => ?_)
    by_cases e9 : j = i
    · subst e9
      rw [mu_self]
      exact ⟨(x4 h).symm, by rw [← ee]; exact x3.mp h⟩
    · rw [mu_idx e9]
      exact hT j (by omega)
  · intro _ s hs k1 hT
    refine b_0_6 ht hs.2.2.2.2 (by omega) (by omega) (fun _ h => bad s hs (fun g => h g.1)) (fun _ h => ⟨s, ⟨hs, fun _ j hj => (hT j hj).1⟩, by rw [clD_t ⟨h, fun j hj => (hT j hj).2⟩]; rfl⟩) (fun h => by omega)
