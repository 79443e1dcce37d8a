/-! THE TAPE: feed, end, fault, on both sides (made by wip/whole/gen89o.py) -/
theorem by8_16 (x : Int32) : ((((x : Int32).toUInt32 >>> ((16 : Int32).toUInt32 &&& Int32.toUInt32 31)).toInt32).toInt8.toInt32) = (x >>> ((16 : Int32) &&& 31)).toInt8.toInt32 := congrArg (fun v : BitVec 8 => (Int8.ofBitVec v).toInt32) (sh8 x.toBitVec 16 (by decide))

theorem by8_8 (x : Int32) : ((((x : Int32).toUInt32 >>> ((8 : Int32).toUInt32 &&& Int32.toUInt32 31)).toInt32).toInt8.toInt32) = (x >>> ((8 : Int32) &&& 31)).toInt8.toInt32 := congrArg (fun v : BitVec 8 => (Int8.ofBitVec v).toInt32) (sh8 x.toBitVec 8 (by decide))

theorem by8_0 (x : Int32) : ((((x : Int32).toUInt32 >>> ((0 : Int32).toUInt32 &&& Int32.toUInt32 31)).toInt32).toInt8.toInt32) = (x >>> ((0 : Int32) &&& 31)).toInt8.toInt32 := congrArg (fun v : BitVec 8 => (Int8.ofBitVec v).toInt32) (sh8 x.toBitVec 0 (by decide))

/-- the bytes of a number that have been put -/
def puP (sg s : Mg) (n : Nat) (x : Int32) (m : Nat) : Prop := (∀ c, c ≠ 1 → c ≠ 2 → s c = sg c) ∧ (∀ f, f ≠ 1 → s 1 f = sg 1 f) ∧ s 1 1 = nI (n + m) ∧ (∀ i, i < n → s 2 i = sg 2 i) ∧ ∀ j, j < m → s 2 (n + j) = by8 x (24 - 8 * j)
theorem puP.step {sg s s3 s4 : Mg} {n m : Nat} {x v : Int32} (h : puP sg s n x m) (e : v = by8 x (24 - 8 * m)) (e3 : s3 = mu s 2 (n + m) v) (e4 : s4 = mu s3 1 1 (nI (n + m + 1))) : puP sg s4 n x (m + 1) := by
  obtain ⟨h1, h2, h3, h4, h5⟩ := h
  refine ⟨fun c c1 c2 => ?_, fun f hf => ?_, ?_, fun i hi => ?_, fun j hj => ?_⟩
  · rw [e4, mu_ne c1, e3, mu_ne c2]; exact h1 c c1 c2
  · rw [e4, mu_idx hf, e3, mu_ne (by decide)]; exact h2 f hf
  · rw [e4, mu_self, Nat.add_assoc]
  · rw [e4, mu_ne (by decide), e3, mu_idx (by omega)]; exact h4 i hi
  · rw [e4, mu_ne (by decide), e3]
    by_cases e9 : j = m
    · subst e9; rw [mu_self]; exact e
    · rw [mu_idx (by omega)]; exact h5 j (by omega)
theorem s_66 {X : Nat × (Nat → Int32)} {d : Nat} {p : Nat → Nat} {sg : Mg} {n : Nat} {x : Int32} (h : sg 1 1 = nI n) (hn : n + 4 ≤ 400) : gF X (d + 2) 66 [vR 1, vI x] p sg (fun r => ∃ s, puP sg s n x 4 ∧ r = gR0 p s) := by
  refine g_in (cd := k_66) (nL := 3) (rc := 9) rfl (g_A (a := 1) (kd := 0) (n := 8) rfl (by decide)) (g_c1 rfl) ?_
  show gW X (d + 1) k_66 0 [some (vR 1), some (vI x), none] [] p sg _
  refine g_pure 2 (i' := 2) (lv' := [some (vR 1), some (vI x), some (vI 24)]) (st' := []) rfl ?_
  have p0 : puP sg sg n x 0 := ⟨fun _ _ _ => rfl, fun _ _ => rfl, h, fun _ _ => rfl, fun j hj => absurd hj (Nat.not_lt_zero _)⟩
  refine b_66_l24 (by omega) p0.2.2.1 (fun h => by omega) (fun _ s3 e3 s4 e4 => ?_)
  have p1 := p0.step (congrArg (vp_nar .byte) (by8_24 x)) e3 e4
  refine b_66_l16 (by omega) p1.2.2.1 (fun h => by omega) (fun _ s5 e5 s6 e6 => ?_)
  have p2 := p1.step (congrArg (vp_nar .byte) (by8_16 x)) e5 e6
  refine b_66_l8 (by omega) p2.2.2.1 (fun h => by omega) (fun _ s7 e7 s8 e8 => ?_)
  have p3 := p2.step (congrArg (vp_nar .byte) (by8_8 x)) e7 e8
  refine b_66_l0 (by omega) p3.2.2.1 (fun h => by omega) (fun _ s9 e9 s10 e10 => ?_)
  have p4 := p3.step (congrArg (vp_nar .byte) (by8_0 x)) e9 e10
  exact b_66_m8 ⟨s10, p4, rfl⟩
def fdN (a b x y z : Int32) (k : Nat) : Int32 := if k = 0 then a else if k = 1 then b else if k = 2 then x else if k = 3 then y else z
/-- the tape when five numbers have been fed -/
def fdT (A : AS) (a b x y z : Int32) (i : Nat) : Int32 := if i < A.tl then A.T i else by8 (fdN a b x y z ((i - A.tl) / 4)) (24 - 8 * ((i - A.tl) % 4))
def AS.tape (A : AS) (T : Nat → Int32) (tl : Nat) : AS := (A.S, A.n, A.ac, A.f, A.im, T, tl, A.q)
def feedA (A : AS) (a b x y z : Int32) : AS := if 20 + A.tl ≤ 400 then A.tape (fdT A a b x y z) (A.tl + 20) else A
def feedV (A : AS) : Int32 := if 20 + A.tl ≤ 400 then nI (20 + A.tl) else -1
theorem RC.tp {A : AS} {p : Nat → Nat} {sg s : Mg} {T : Nat → Int32} {tl : Nat} (hR : RC A p sg) (h1 : ∀ c, c ≠ 1 → c ≠ 2 → s c = sg c) (h2 : s 1 5 = sg 1 5) (h3 : s 1 1 = nI tl) (h4 : ∀ i, i < tl → s 2 i = T i) : RC (A.tape T tl) p s := by
  obtain ⟨r1, r2, r3, r4, r5, r6, r7, r8, r9, r10⟩ := hR
  refine ⟨r1, r2.eqc (fun c c1 c2 c3 => h1 c (by omega) (by omega)), ?_, fun i hi => cwL.eqc (r4 i hi) (fun c c1 c2 => h1 c (by omega) (by omega)), ?_, fun hf => (r6 hf).eqc (fun c c1 c2 c3 => h1 c (by omega) (by omega)), h3, h4, h2.trans r9, ?_⟩
  · rw [h1 0 (by decide) (by decide)]; exact r3
  · rw [h1 0 (by decide) (by decide)]; exact r5
  · rw [h1 23 (by decide) (by decide)]; exact r10
theorem RM.tp {A : AS} {sg s : Mg} {T : Nat → Int32} {tl : Nat} (hR : RM A sg) (h1 : ∀ c, c = 801 ∨ c = 802 ∨ c = 804 ∨ c = 815 → s c = sg c) (h2 : ∀ k, k = 5 ∨ k = 6 ∨ k = 13 → s 800 k = sg 800 k) (h3 : s 800 8 = nI tl) (h4 : ∀ i, i < tl → s 805 i = T i) : RM (A.tape T tl) s := by
  obtain ⟨r1, r2, r3, r4, r5, r6, r7, r8, r9⟩ := hR
  refine ⟨?_, ?_, fun i j hi hj => ?_, ?_, fun hf j hj => ?_, h3, h4, ?_, ?_⟩
  · rw [h1 801 (by omega)]; exact r1
  · rw [h2 6 (by omega)]; exact r2
  · rw [h1 804 (by omega)]; exact r3 i j hi hj
  · rw [h2 5 (by omega)]; exact r4
  · rw [h1 802 (by omega)]; exact r5 hf j hj
  · rw [h2 13 (by omega)]; exact r8
  · rw [h1 815 (by omega)]; exact r9
/-- so many numbers have been fed -/
def fdS (A : AS) (a b x y z : Int32) (sg s : Mg) (q : Nat) : Prop := (∀ c, c ≠ 1 → c ≠ 2 → s c = sg c) ∧ (∀ f, f ≠ 1 → s 1 f = sg 1 f) ∧ s 1 1 = nI (A.tl + 4 * q) ∧ ∀ i, i < A.tl + 4 * q → s 2 i = fdT A a b x y z i
theorem fdS.step {A : AS} {a b x y z : Int32} {sg s s' : Mg} {q : Nat} (h : fdS A a b x y z sg s q) (g : puP s s' (A.tl + 4 * q) (fdN a b x y z q) 4) : fdS A a b x y z sg s' (q + 1) := by
  obtain ⟨h1, h2, h3, h4⟩ := h
  obtain ⟨g1, g2, g3, g4, g5⟩ := g
  refine ⟨fun c c1 c2 => (g1 c c1 c2).trans (h1 c c1 c2), fun f hf => (g2 f hf).trans (h2 f hf), g3.trans (by rw [show A.tl + 4 * q + 4 = A.tl + 4 * (q + 1) by omega]), fun i hi => ?_⟩
  by_cases c : i < A.tl + 4 * q
  · rw [g4 i c]; exact h4 i c
  · have := g5 (i - (A.tl + 4 * q)) (by omega)
    rw [show A.tl + 4 * q + (i - (A.tl + 4 * q)) = i by omega] at this
    rw [this]
    unfold fdT
    rw [if_neg (by omega), show (i - A.tl) / 4 = q by omega, show (i - A.tl) % 4 = i - (A.tl + 4 * q) by omega]
theorem c_feed {X : Nat × (Nat → Int32)} {d : Nat} {p : Nat → Nat} {sg : Mg} {B : Nat} {A : AS} (hI : RI B A) (hR : RC A p sg) {a b x y z : Int32} : gF X (d + 4) 126 [vR 0, vI a, vI b, vI x, vI y, vI z] p sg (cR A (feedA A a b x y z) (fun _ => 0) (0, feedV A) sg) := by
  have ht := hI.2.2.2.2.2.2.1
  have h7 := hR.2.2.2.2.2.2.1
  have h8 := hR.2.2.2.2.2.2.2.1
  refine g_in (cd := k_126) (nL := 6) (rc := 12) rfl (g_A (a := 0) (kd := 0) (n := 11) rfl (by decide)) (g_c1 rfl) ?_
  show gW X (d + 3) k_126 0 [some (vR 0), some (vI a), some (vI b), some (vI x), some (vI y), some (vI z)] [] p sg _
  refine g_pure 7 (i' := 7) (lv' := [some (vR 0), some (vI a), some (vI b), some (vI x), some (vI y), some (vI z)]) (st' := [vI z, vI y, vI x, vI b, vI a, vR 1]) rfl ?_
  refine g_cV1E (P := fun s => RC (feedA A a b x y z) p s ∧ ∀ c, 800 ≤ c → s c = sg c) rfl (args := [vR 1, vI a, vI b, vI x, vI y, vI z]) (rest := []) rfl rfl rfl (v := feedV A) ?_ (fun s h => g_iret rfl (cR_v h.1 h.2 rfl))
  refine g_in (cd := k_65) (nL := 6) (rc := 9) rfl (g_A (a := 1) (kd := 0) (n := 8) rfl (by decide)) (g_c1 rfl) (b_65_0 ht h7 (fun hc => ?_) (fun hc => ?_))
  · have s0 : fdS A a b x y z sg sg 0 := ⟨fun _ _ _ => rfl, fun _ _ => rfl, h7, fun i hi => by unfold fdT; rw [if_pos (by omega)]; exact h8 i (by omega)⟩
    refine g_pure 2 (i' := 10) (lv' := [some (vR 1), some (vI a), some (vI b), some (vI x), some (vI y), some (vI z)]) (st' := [vI a, vR 1]) rfl ?_
    refine g_cV0E rfl (args := [vR 1, vI a]) (rest := []) rfl rfl rfl (s_66 (d := d) s0.2.2.1 (by omega)) (fun s1 g1 => ?_)
    have s1' := s0.step (q := 0) g1
    refine g_pure 2 (i' := 13) (lv' := [some (vR 1), some (vI a), some (vI b), some (vI x), some (vI y), some (vI z)]) (st' := [vI b, vR 1]) rfl ?_
    refine g_cV0E rfl (args := [vR 1, vI b]) (rest := []) rfl rfl rfl (s_66 (d := d) s1'.2.2.1 (by omega)) (fun s2 g2 => ?_)
    have s2' := s1'.step (q := 1) g2
    refine g_pure 2 (i' := 16) (lv' := [some (vR 1), some (vI a), some (vI b), some (vI x), some (vI y), some (vI z)]) (st' := [vI x, vR 1]) rfl ?_
    refine g_cV0E rfl (args := [vR 1, vI x]) (rest := []) rfl rfl rfl (s_66 (d := d) s2'.2.2.1 (by omega)) (fun s3 g3 => ?_)
    have s3' := s2'.step (q := 2) g3
    refine g_pure 2 (i' := 19) (lv' := [some (vR 1), some (vI a), some (vI b), some (vI x), some (vI y), some (vI z)]) (st' := [vI y, vR 1]) rfl ?_
    refine g_cV0E rfl (args := [vR 1, vI y]) (rest := []) rfl rfl rfl (s_66 (d := d) s3'.2.2.1 (by omega)) (fun s4 g4 => ?_)
    have s4' := s3'.step (q := 3) g4
    refine g_pure 2 (i' := 22) (lv' := [some (vR 1), some (vI a), some (vI b), some (vI x), some (vI y), some (vI z)]) (st' := [vI z, vR 1]) rfl ?_
    refine g_cV0E rfl (args := [vR 1, vI z]) (rest := []) rfl rfl rfl (s_66 (d := d) s4'.2.2.1 (by omega)) (fun s5 g5 => ?_)
    have s5' := s4'.step (q := 4) g5
    refine g_pure 2 (i' := 25) (lv' := [some (vR 1), some (vI a), some (vI b), some (vI x), some (vI y), some (vI z)]) (st' := [vI (s5 1 1)]) rfl ?_
    refine g_iret rfl ⟨s5, ⟨?_, fun c hc => s5'.1 c (by omega) (by omega)⟩, ?_⟩
    · unfold feedA
      rw [if_pos hc]
      exact hR.tp s5'.1 (s5'.2.1 5 (by decide)) s5'.2.2.1 s5'.2.2.2
    · rw [s5'.2.2.1]
      unfold feedV
      rw [if_pos hc, Nat.add_comm]
  · refine ⟨sg, ⟨?_, fun _ _ => rfl⟩, ?_⟩
    · unfold feedA; rw [if_neg hc]; exact hR
    · unfold feedV; rw [if_neg hc]
