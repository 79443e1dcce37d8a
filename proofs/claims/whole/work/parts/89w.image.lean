/-! IMAGE, BACK, UNDO as operations (made by wip/whole/gen89w.py) -/
/-- what an operation without a value does, in the class and in the reference -/
def cR0 (A' : AS) (sg : Mg) (r : am_R) : Prop := ∃ p' s, (∀ c, 800 ≤ c → s c = sg c) ∧ RC A' p' s ∧ r = gR0 p' s
def mR0 (A' : AS) (p : Nat → Nat) (sg : Mg) (r : am_R) : Prop := ∃ s, (∀ c, c < 800 ∨ 900 ≤ c → s c = sg c) ∧ s 800 0 = 0 ∧ RM A' s ∧ r = gR0 p s
def imageA (A : AS) : AS := (A.S, A.n, A.ac, 1, A.S, A.T, A.tl, A.q)
theorem RI.image {B : Nat} {A : AS} (hI : RI B A) : RI B (imageA A) := by
  obtain ⟨a1, a2, a3, a4, a5, a6, a7, a8⟩ := hI
  exact ⟨a1, a2, a3, a4, a5, ⟨Nat.le_refl _, fun _ => ⟨a1, a2, a3⟩⟩, a7, a8⟩
theorem c_imageR {X : Nat × (Nat → Int32)} {d : Nat} {p : Nat → Nat} {sg : Mg} {B : Nat} {A : AS} (hI : RI B A) (hR : RC A p sg) : gF X (d + 6) 133 [vR 0] p sg (cR0 (imageA A) sg) :=
  gF_mono c_image (fun r hr => by
    obtain ⟨s, ⟨e, e0, e1, e2⟩, hr⟩ := hr
    have h12 := hI.2.2.2.1
    obtain ⟨r1, r2, r3, r4, r5, r6, r7, r8, r9, r10⟩ := hR
    refine ⟨p, s, fun c hc => e c (by omega) (by omega), ⟨r1, r2.eqc (fun c c1 c2 c3 => e c (by omega) (by omega)), (e0 11 (by decide)).trans r3, fun i hi => ?_, e1, fun _ => e2 A.S (by have := hI.1.b14; omega) r2, ?_, fun i hi => ?_, ?_, ?_⟩, hr⟩
    · have := r1.1 i (by have hi : i < A.n := hi; omega)
      exact cwL.eqc (r4 i hi) (fun c c1 c2 => e c (by omega) (by omega))
    · rw [e 1 (by decide) (by decide)]; exact r7
    · rw [e 2 (by decide) (by decide)]; exact r8 i hi
    · rw [e 1 (by decide) (by decide)]; exact r9
    · rw [e 23 (by decide) (by decide)]; exact r10)
theorem m_imageR {X : Nat × (Nat → Int32)} {d : Nat} {p : Nat → Nat} {sg : Mg} {A : AS} (hR : RM A sg) : gF X (d + 1) 179 [vR 800] p sg (mR0 (imageA A) p sg) :=
  gF_mono m_image (fun r hr => by
    obtain ⟨r1, r2, r3, r4, r5, r6, r7, r8, r9⟩ := hR
    refine ⟨_, fun c hc => ?_, ?_, ⟨?_, ?_, fun i j hi hj => ?_, ?_, fun hf j hj => ?_, ?_, fun i hi => ?_, ?_, ?_⟩, hr⟩
    · rw [mu_ne (by omega), va_up_ne _ _ (by omega), mu_ne (by omega)]
    · rw [mu_idx (by decide), va_up_ne _ _ (by decide), mu_self]
    · rw [mu_ne (by decide), va_up_ne _ _ (by decide), mu_ne (by decide)]; exact r1
    · rw [mu_idx (by decide), va_up_ne _ _ (by decide), mu_idx (by decide)]; exact r2
    · rw [mu_ne (by decide), va_up_ne _ _ (by decide), mu_ne (by decide)]; exact r3 i j hi hj
    · rw [mu_self]; rfl
    · rw [mu_ne (by decide), va_up_self]
      show (if j < 1558 then sg 801 j else sg 802 j) = A.S j
      rw [if_pos hj, r1]
    · rw [mu_idx (by decide), va_up_ne _ _ (by decide), mu_idx (by decide)]; exact r6
    · rw [mu_ne (by decide), va_up_ne _ _ (by decide), mu_ne (by decide)]; exact r7 i hi
    · rw [mu_idx (by decide), va_up_ne _ _ (by decide), mu_idx (by decide)]; exact r8
    · rw [mu_ne (by decide), va_up_ne _ _ (by decide), mu_ne (by decide)]; exact r9)
def backA (A : AS) : AS := if A.f = 1 then (A.im, 0, A.ac, A.f, A.im, A.T, A.tl, A.q) else A
def backV (A : AS) : Int32 := if A.f = 1 then 1 else 0
theorem RI.back {B : Nat} {A : AS} (hI : RI B A) : RI B (backA A) := by
  unfold backA
  by_cases c : A.f = 1
  · rw [if_pos c]
    obtain ⟨a1, a2, a3, a4, a5, a6, a7, a8⟩ := hI
    have := a6.2 c
    exact ⟨this.1, this.2.1, this.2.2, Nat.zero_le _, fun i hi => absurd hi (Nat.not_lt_zero _), a6, a7, a8⟩
  · rw [if_neg c]; exact hI
theorem c_backR {X : Nat × (Nat → Int32)} {d : Nat} {p : Nat → Nat} {sg : Mg} {B : Nat} {A : AS} (hI : RI B A) (hR : RC A p sg) : gF X (d + 6) 134 [vR 0] p sg (cR A (backA A) (fun _ => 0) (0, backV A) sg) := by
  have hf := hI.2.2.2.2.2.1
  have h5 := hR.2.2.2.2.1
  by_cases c : A.f = 1
  · refine gF_mono (c_back1 (h5.trans (by rw [c]; rfl))) (fun r hr => ?_)
    obtain ⟨s, ⟨e, e0, e1, e2⟩, hr⟩ := hr
    rw [hr]
    obtain ⟨r1, r2, r3, r4, r5, r6, r7, r8, r9, r10⟩ := hR
    refine cR_v (A' := backA A) ?_ (fun c hc => e c (by omega) (by omega)) (by unfold backV; rw [if_pos c])
    unfold backA
    rw [if_pos c]
    refine ⟨r1, e2 A.im (by have := (hf.2 c).1.b14; omega) (r6 c), e1, fun i hi => absurd hi (Nat.not_lt_zero _), (e0 12 (by decide)).trans r5, fun _ => (r6 c).eqc (fun c c1 c2 c3 => e c (by omega) (by omega)), ?_, fun i hi => ?_, ?_, ?_⟩
    · rw [e 1 (by decide) (by decide)]; exact r7
    · rw [e 2 (by decide) (by decide)]; exact r8 i hi
    · rw [e 1 (by decide) (by decide)]; exact r9
    · rw [e 23 (by decide) (by decide)]; exact r10
  · have c0 : A.f = 0 := by have := hf.1; omega
    refine gF_mono (c_back0 (h5.trans (by rw [c0]; rfl))) (fun r hr => ?_)
    rw [hr]
    exact cR_v (A' := backA A) (by unfold backA; rw [if_neg c]; exact hR) (fun _ _ => rfl) (by unfold backV; rw [if_neg c])
theorem m_backR {X : Nat × (Nat → Int32)} {d : Nat} {p : Nat → Nat} {sg : Mg} {B : Nat} {A : AS} (hI : RI B A) (hR : RM A sg) (h58 : ∀ j, 1558 ≤ j → A.im j = A.S j) : gF X (d + 1) 180 [vR 800] p sg (mR A (backA A) (0, backV A) p sg) := by
  have hf := hI.2.2.2.2.2.1
  have h5 := hR.2.2.2.1
  by_cases c : A.f = 1
  · refine gF_mono (m_back1 (by rw [h5, c]; decide)) (fun r hr => ?_)
    rw [hr]
    obtain ⟨r1, r2, r3, r4, r5, r6, r7, r8, r9⟩ := hR
    refine mR_v (A' := backA A) ?_ (fun c hc => by rw [mu_ne (by omega), va_up_ne _ _ (by omega), mu_ne (by omega)]) (by rw [mu_idx (by decide), va_up_ne _ _ (by decide), mu_self]) (by unfold backV; rw [if_pos c])
    unfold backA
    rw [if_pos c]
    refine ⟨?_, ?_, fun i j hi hj => absurd hi (Nat.not_lt_zero _), ?_, fun hf j hj => ?_, ?_, fun i hi => ?_, ?_, ?_⟩
    · rw [mu_ne (by decide), va_up_self]
      funext j
      show (if j < 1558 then sg 802 j else sg 801 j) = A.im j
      by_cases hj : j < 1558
      · rw [if_pos hj]; exact r5 c j hj
      · rw [if_neg hj, r1, h58 j (by omega)]
    · rw [mu_self]; rfl
    · rw [mu_idx (by decide), va_up_ne _ _ (by decide), mu_idx (by decide)]; exact r4
    · rw [mu_ne (by decide), va_up_ne _ _ (by decide), mu_ne (by decide)]; exact r5 hf j hj
    · rw [mu_idx (by decide), va_up_ne _ _ (by decide), mu_idx (by decide)]; exact r6
    · rw [mu_ne (by decide), va_up_ne _ _ (by decide), mu_ne (by decide)]; exact r7 i hi
    · rw [mu_idx (by decide), va_up_ne _ _ (by decide), mu_idx (by decide)]; exact r8
    · rw [mu_ne (by decide), va_up_ne _ _ (by decide), mu_ne (by decide)]; exact r9
  · have c0 : A.f = 0 := by have := hf.1; omega
    refine gF_mono (m_back0 (by rw [h5, c0]; rfl)) (fun r hr => ?_)
    rw [hr]
    exact mR_v (A' := backA A) (by unfold backA; rw [if_neg c]; exact hR.th rfl) (fun c hc => up_hi hc) mu_self (by unfold backV; rw [if_neg c])
theorem cwD.kp {w : Nat} {sg : Mg} {S S' : Nat → Int32} (h : cwD w sg S) (e : ∀ i, ¬ noLand i → S' i = S i) : cwD w sg S' := by
  obtain ⟨h1, h2, h3, h4, h5, h6, h7, h8, h9, h10⟩ := h
  exact ⟨fun k hk => (h1 k hk).trans (e k (by unfold noLand; omega)).symm, fun k j hk hj => (h2 k j hk hj).trans (e _ (by unfold noLand; omega)).symm, fun k j hk hj => (h3 k j hk hj).trans (e _ (by unfold noLand; omega)).symm, fun k j hk hj => (h4 k j hk hj).trans (e _ (by unfold noLand; omega)).symm, fun k j hk hj => (h5 k j hk hj).trans (e _ (by unfold noLand; omega)).symm, h6.trans (e _ (by unfold noLand; omega)).symm, h7.trans (e _ (by unfold noLand; omega)).symm, h8.trans (e _ (by unfold noLand; omega)).symm, h9.trans (e _ (by unfold noLand; omega)).symm, h10.trans (e _ (by unfold noLand; omega)).symm⟩
/-- the last act is undone -/
def undoA (A : AS) : AS := if A.n = 0 then A else (A.ac (A.n - 1), A.n - 1, A.ac, A.f, A.im, A.T, A.tl, A.q)
def undoV (A : AS) : Int32 := if A.n = 0 then 0 else 1
theorem RI.undo {B : Nat} {A : AS} (hI : RI B A) : RI B (undoA A) := by
  unfold undoA
  by_cases c : A.n = 0
  · rw [if_pos c]; exact hI
  · rw [if_neg c]
    obtain ⟨a1, a2, a3, a4, a5, a6, a7, a8⟩ := hI
    have h := a5 (A.n - 1) (by omega)
    exact ⟨h.1, h.2.1, a3.ext (fun i hi => h.2.2 i (fun g => by rcases hi with e | e; exact g.2.1 e; exact absurd g.2.2 (by omega))), (by omega : A.n - 1 ≤ 12), fun i hi => by
      have hi : i < A.n - 1 := hi
      have h2 := a5 i (by omega)
      exact ⟨h2.1, h2.2.1, h.2.2.sy.tr h2.2.2⟩, a6, a7, a8⟩
theorem c_undoR {X : Nat × (Nat → Int32)} {d : Nat} {p : Nat → Nat} {sg : Mg} {B : Nat} {A : AS} (hI : RI B A) (hR : RC A p sg) : gF X (d + 5) 130 [vR 0] p sg (cR A (undoA A) (fun _ => 0) (0, undoV A) sg) := by
  have h12 := hI.2.2.2.1
  by_cases c : A.n = 0
  · refine gF_mono (c_undo0 (hR.2.2.1.trans (by rw [c]; rfl))) (fun r hr => ?_)
    rw [hr]
    exact cR_v (A' := undoA A) (by unfold undoA; rw [if_pos c]; exact hR) (fun _ _ => rfl) (by unfold undoV; rw [if_pos c])
  · have h := hI.2.2.2.2.1 (A.n - 1) (by omega)
    refine gF_mono (c_undo1 hR.1 (by omega) h12 hR.2.2.1) (fun r hr => ?_)
    obtain ⟨s, ⟨e, e0, e1, e2⟩, hr⟩ := hr
    rw [hr]
    obtain ⟨r1, r2, r3, r4, r5, r6, r7, r8, r9, r10⟩ := hR
    refine cR_v (A' := undoA A) ?_ (fun c hc => e c (by omega) (by omega)) (by unfold undoV; rw [if_neg c])
    unfold undoA
    rw [if_neg c]
    refine ⟨r1, ⟨e2 _ (by have := h.1.b14; omega) (r4 _ (by omega)), ?_, ?_⟩, e1, fun i hi => ?_, (e0 12 (by decide)).trans r5, fun hf => (r6 hf).eqc (fun c c1 c2 c3 => e c (by omega) (by omega)), ?_, fun i hi => ?_, ?_, ?_⟩
    · exact cwD.kp (cwD.eqc r2.2.1 (fun c hc => e c (by omega) (by omega))) (fun i hi => h.2.2 i (fun g => hi g.1))
    · exact ((r2.2.2.cells (fun c c1 c2 => e c (by omega) (by omega)))).ext (fun i hi => h.2.2 i (fun g => by rcases hi with e | e; exact g.2.1 e; exact absurd g.2.2 (by omega)))
    · have hi : i < A.n - 1 := hi
      have := r1.1 i (by omega)
      exact cwL.eqc (r4 i (by omega)) (fun c c1 c2 => e c (by omega) (by omega))
    · rw [e 1 (by decide) (by decide)]; exact r7
    · rw [e 2 (by decide) (by decide)]; exact r8 i hi
    · rw [e 1 (by decide) (by decide)]; exact r9
    · rw [e 23 (by decide) (by decide)]; exact r10
theorem m_undoR {X : Nat × (Nat → Int32)} {d : Nat} {p : Nat → Nat} {sg : Mg} {B : Nat} {A : AS} (hI : RI B A) (hR : RM A sg) : gF X (d + 1) 181 [vR 800] p sg (mR A (undoA A) (0, undoV A) p sg) := by
  have h12 := hI.2.2.2.1
  by_cases c : A.n = 0
  · refine gF_mono (m_undo0 (hR.2.1.trans (by rw [c]))) (fun r hr => ?_)
    rw [hr]
    exact mR_v (A' := undoA A) (by unfold undoA; rw [if_pos c]; exact hR.th rfl) (fun c hc => up_hi hc) mu_self (by unfold undoV; rw [if_pos c])
  · have h := hI.2.2.2.2.1 (A.n - 1) (by omega)
    refine gF_mono (m_undo1 (by omega) h12 hR.2.1) (fun r hr => ?_)
    rw [hr]
    obtain ⟨r1, r2, r3, r4, r5, r6, r7, r8, r9⟩ := hR
    refine mR_v (A' := undoA A) ?_ (fun c hc => by rw [va_up_ne _ _ (by omega), mu_ne (by omega), mu_ne (by omega)]) (by rw [va_up_ne _ _ (by decide), mu_idx (by decide), mu_self]) (by unfold undoV; rw [if_neg c])
    unfold undoA
    rw [if_neg c]
    refine ⟨?_, ?_, fun i j hi hj => ?_, ?_, fun hf j hj => ?_, ?_, fun i hi => ?_, ?_, ?_⟩
    · rw [va_up_self]
      funext j
      show (if j < 709 then sg 804 (709 * (A.n - 1) + j) else sg 801 j) = A.ac (A.n - 1) j
      by_cases hj : j < 709
      · rw [if_pos hj]; exact r3 _ _ (by omega) hj
      · rw [if_neg hj, r1]; exact (h.2.2 j (fun g => hj g.2.2)).symm
    · rw [va_up_ne _ _ (by decide), mu_self]
    · rw [va_up_ne _ _ (by decide), mu_ne (by decide), mu_ne (by decide)]; exact r3 i j (by have hi : i < A.n - 1 := hi; omega) hj
    · rw [va_up_ne _ _ (by decide), mu_idx (by decide), mu_idx (by decide)]; exact r4
    · rw [va_up_ne _ _ (by decide), mu_ne (by decide), mu_ne (by decide)]; exact r5 hf j hj
    · rw [va_up_ne _ _ (by decide), mu_idx (by decide), mu_idx (by decide)]; exact r6
    · rw [va_up_ne _ _ (by decide), mu_ne (by decide), mu_ne (by decide)]; exact r7 i hi
    · rw [va_up_ne _ _ (by decide), mu_idx (by decide), mu_idx (by decide)]; exact r8
    · rw [va_up_ne _ _ (by decide), mu_ne (by decide), mu_ne (by decide)]; exact r9
