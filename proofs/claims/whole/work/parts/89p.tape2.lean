/-! THE TAPE: feed in the reference, end, fault (made by wip/whole/gen89p.py) -/
theorem m_feed {X : Nat × (Nat → Int32)} {d : Nat} {p : Nat → Nat} {sg : Mg} {B : Nat} {A : AS} (hI : RI B A) (hR : RM A sg) {a b x y z : Int32} : gF X (d + 2) 182 [vR 800, vI a, vI b, vI x, vI y, vI z] p sg (mR A (feedA A a b x y z) (0, feedV A) p sg) := by
  have ht := hI.2.2.2.2.2.2.1
  have h6 := hR.2.2.2.2.2.1
  have h7 := hR.2.2.2.2.2.2.1
  refine g_in (cd := k_182) (nL := 7) (rc := 13) rfl (g_A (a := 800) (kd := 0) (n := 12) rfl (by decide)) (g_c1 rfl) (b_182_0 ht h6 (fun s1 e1 hc s3 e3 s4 e4 s5 e5 s6 e6 s7 e7 => ?_) (fun s1 e1 hc => ?_))
  · have hne : ∀ c, c ≠ 800 → c ≠ 806 → s7 c = sg c := fun c c1 c2 => by rw [e7, mu_ne c2, e6, mu_ne c2, e5, mu_ne c2, e4, mu_ne c2, e3, mu_ne c2, e1, mu_ne c1]
    have h80 : ∀ k, k ≠ 0 → s7 800 k = sg 800 k := fun k hk => by rw [e7, mu_ne (by decide), e6, mu_ne (by decide), e5, mu_ne (by decide), e4, mu_ne (by decide), e3, mu_ne (by decide), e1, mu_idx hk]
    have h00 : s7 800 0 = 0 := by rw [e7, mu_ne (by decide), e6, mu_ne (by decide), e5, mu_ne (by decide), e4, mu_ne (by decide), e3, mu_ne (by decide), e1, mu_self]
    have hv : ∀ k, k < 5 → s7 806 k = fdN a b x y z k := fun k hk => by
      have hh : k = 0 ∨ k = 1 ∨ k = 2 ∨ k = 3 ∨ k = 4 := by omega
      rcases hh with rfl | rfl | rfl | rfl | rfl
      · rw [e7, mu_idx (by decide), e6, mu_idx (by decide), e5, mu_idx (by decide), e4, mu_idx (by decide), e3, mu_self]; rfl
      · rw [e7, mu_idx (by decide), e6, mu_idx (by decide), e5, mu_idx (by decide), e4, mu_self]; rfl
      · rw [e7, mu_idx (by decide), e6, mu_idx (by decide), e5, mu_self]; rfl
      · rw [e7, mu_idx (by decide), e6, mu_self]; rfl
      · rw [e7, mu_self]; rfl
    have key := g_upI (P := fun j => ∀ s, (∀ c, c ≠ 805 → s c = s7 c) → (∀ i, i < A.tl + j → s 805 i = fdT A a b x y z i) → gW X (d + 1) k_182 38 [some (vR 800), some (vI a), some (vI b), some (vI x), some (vI y), some (vI z), some (vI (nI j))] [] p s (mR A (feedA A a b x y z) (0, feedV A) p sg)) (I := fun _ => True) (n := 20) (a := 0) (by omega) trivial ?_ ?_
    · exact key s7 (fun _ _ => rfl) (fun i hi => by
        unfold fdT
        rw [if_pos (by omega), hne 805 (by decide) (by decide)]
        exact h7 i (by omega))
    · intro j _ hj _ ih s hs hT
      have k8 : s 800 8 = nI A.tl := by rw [hs 800 (by decide), h80 8 (by decide)]; exact h6
      refine b_182_38 (by omega) k8 (by omega) (fun h => by omega) (fun _ s9 e9 => ?_)
      refine ih trivial s9 (fun c hc => by rw [e9, mu_ne hc]; exact hs c hc) (fun i hi => ?_)
      by_cases e : i = A.tl + j
      · subst e
        rw [e9, mu_self, hs 806 (by decide), hv (j / 4) (by omega)]
        unfold fdT by8
        rw [if_neg (by omega), show A.tl + j - A.tl = j by omega, show (24 : Int32) - nI (8 * (j % 4)) = nI (24 - 8 * (j % 4)) from nI_sub (a := 24) (by omega)]
      · rw [e9, mu_idx e]
        exact hT i (by omega)
    · intro _ s hs hT
      have k8 : s 800 8 = nI A.tl := by rw [hs 800 (by decide), h80 8 (by decide)]; exact h6
      refine b_182_38 (by omega) k8 (by omega) (fun _ s9 e9 => ?_) (fun h => by omega)
      refine mR_v (A' := feedA A a b x y z) ?_ (fun c hc => by rw [e9, mu_ne (by omega), hs c (by omega), hne c (by omega) (by omega)]) (by rw [e9, mu_idx (by decide), hs 800 (by decide)]; exact h00) ?_
      · unfold feedA
        rw [if_pos hc]
        refine hR.tp (fun c hc => by rw [e9, mu_ne (by omega), hs c (by omega), hne c (by omega) (by omega)]) (fun k hk => by rw [e9, mu_idx (by omega), hs 800 (by decide)]; exact h80 k (by omega)) (by rw [e9, mu_self, Nat.add_comm]) (fun i hi => by rw [e9, mu_ne (by decide)]; exact hT i hi)
      · unfold feedV
        rw [if_pos hc]
  · refine mR_v (A' := feedA A a b x y z) ?_ (fun c hc => by rw [e1, up_hi hc]) (by rw [e1, mu_self]) ?_
    · unfold feedA; rw [if_neg hc]; exact hR.th e1
    · unfold feedV; rw [if_neg hc]
theorem by8_nar (x : Int32) (k : Nat) : vp_nar .byte (by8 x k) = by8 x k := by
  unfold by8
  show ((_ : Int8).toInt32).toInt8.toInt32 = _
  rw [Int8.toInt8_toInt32]
  rfl
theorem RI.feed {B : Nat} {A : AS} (hI : RI B A) {a b x y z : Int32} : RI B (feedA A a b x y z) := by
  obtain ⟨a1, a2, a3, a4, a5, a6, a7, a8⟩ := hI
  unfold feedA
  by_cases c : 20 + A.tl ≤ 400
  · rw [if_pos c]
    refine ⟨a1, a2, a3, a4, a5, a6, (by omega : A.tl + 20 ≤ 400), fun i hi => ?_⟩
    show vp_nar .byte (fdT A a b x y z i) = fdT A a b x y z i
    unfold fdT
    by_cases e : i < A.tl
    · rw [if_pos e]; exact a8 i e
    · rw [if_neg e]; exact by8_nar _ _
  · rw [if_neg c]
    exact ⟨a1, a2, a3, a4, a5, a6, a7, a8⟩
/-- the tape is cut -/
def endA (A : AS) (x : Int32) : AS := if ¬ x < 0 ∧ x ≤ nI A.tl then A.tape A.T x.toNatClampNeg else A
def endV (A : AS) (x : Int32) : Int32 := if ¬ x < 0 ∧ x ≤ nI A.tl then 1 else 0
theorem end_of {A : AS} {x : Int32} (ht : A.tl ≤ 400) (h : ¬ x < 0 ∧ x ≤ nI A.tl) : ∃ k, k ≤ A.tl ∧ x = nI k := by
  obtain ⟨k, h1, h2⟩ := okr_of (x := x) (a := 0) (b := nI A.tl) (lo := 0) (hi := A.tl) ⟨rfl, rfl, Nat.zero_le _, by omega⟩ ⟨h.1, Int32.not_lt.mpr h.2⟩
  exact ⟨k, h1.2, h2⟩
theorem c_end {X : Nat × (Nat → Int32)} {d : Nat} {p : Nat → Nat} {sg : Mg} {B : Nat} {A : AS} (hI : RI B A) (hR : RC A p sg) {x : Int32} : gF X (d + 3) 127 [vR 0, vI x] p sg (cR A (endA A x) (fun _ => 0) (0, endV A x) sg) := by
  have ht := hI.2.2.2.2.2.2.1
  have h7 := hR.2.2.2.2.2.2.1
  have h8 := hR.2.2.2.2.2.2.2.1
  refine g_in (cd := k_127) (nL := 2) (rc := 12) rfl (g_A (a := 0) (kd := 0) (n := 11) rfl (by decide)) (g_c1 rfl) ?_
  show gW X (d + 2) k_127 0 [some (vR 0), some (vI x)] [] p sg _
  refine g_pure 3 (i' := 3) (lv' := [some (vR 0), some (vI x)]) (st' := [vI x, vR 1]) rfl ?_
  have fin : ∀ s, RC (endA A x) p s ∧ (∀ c, 800 ≤ c → s c = sg c) → gW X (d + 2) k_127 4 [some (vR 0), some (vI x)] [vI (endV A x)] p s (cR A (endA A x) (fun _ => 0) (0, endV A x) sg) := fun s h => g_bret rfl (by unfold endV; exact g_narB) (cR_v h.1 h.2 rfl)
  refine g_cV1E (P := fun s => RC (endA A x) p s ∧ ∀ c, 800 ≤ c → s c = sg c) rfl (args := [vR 1, vI x]) (rest := []) rfl rfl rfl (v := endV A x) ?_ fin
  have no : ¬ (¬ x < 0 ∧ x ≤ nI A.tl) → ∃ s, (RC (endA A x) p s ∧ ∀ c, 800 ≤ c → s c = sg c) ∧ gRv p sg 0 = gRv p s (endV A x) := fun h => by
    refine ⟨sg, ⟨?_, fun _ _ => rfl⟩, ?_⟩
    · unfold endA; rw [if_neg h]; exact hR
    · unfold endV; rw [if_neg h]
  refine g_in (cd := k_67) (nL := 2) (rc := 9) rfl (g_A (a := 1) (kd := 0) (n := 8) rfl (by decide)) (g_c1 rfl) (b_67_0 (d := d) ht h7 (fun h => no (fun g => g.1 h)) (fun h1 h2 s3 e3 => ?_) (fun h1 h2 => no (fun g => h2 g.2)))
  refine ⟨s3, ⟨?_, fun c hc => by rw [e3, mu_ne (by omega)]⟩, ?_⟩
  · obtain ⟨k, hk, ek⟩ := end_of ht ⟨h1, h2⟩
    unfold endA
    rw [if_pos ⟨h1, h2⟩]
    refine hR.tp (fun c c1 c2 => by rw [e3, mu_ne c1]) (by rw [e3, mu_idx (by decide)]) (by rw [e3, mu_self, ek, nI_clamp (by omega)]) (fun i hi => ?_)
    rw [ek, nI_clamp (by omega)] at hi
    rw [e3, mu_ne (by decide)]
    exact h8 i (by omega)
  · unfold endV; rw [if_pos ⟨h1, h2⟩]
theorem m_end {X : Nat × (Nat → Int32)} {d : Nat} {p : Nat → Nat} {sg : Mg} {B : Nat} {A : AS} (hI : RI B A) (hR : RM A sg) {x : Int32} : gF X (d + 2) 183 [vR 800, vI x] p sg (mR A (endA A x) (0, endV A x) p sg) := by
  have ht := hI.2.2.2.2.2.2.1
  have h6 := hR.2.2.2.2.2.1
  have h7 := hR.2.2.2.2.2.2.1
  have no : ∀ s1, s1 = mu sg 800 0 0 → ¬ (¬ x < 0 ∧ x ≤ nI A.tl) → mR A (endA A x) (0, endV A x) p sg (gRv p s1 0) := fun s1 e1 h => by
    refine mR_v (A' := endA A x) ?_ (fun c hc => by rw [e1, up_hi hc]) (by rw [e1, mu_self]) ?_
    · unfold endA; rw [if_neg h]; exact hR.th e1
    · unfold endV; rw [if_neg h]
  refine g_in (cd := k_183) (nL := 2) (rc := 13) rfl (g_A (a := 800) (kd := 0) (n := 12) rfl (by decide)) (g_c1 rfl) (b_183_0 ht h6 (fun s1 e1 h => no s1 e1 (fun g => g.1 h)) (fun s1 e1 h1 h2 s4 e4 => ?_) (fun s1 e1 h1 h2 => no s1 e1 (fun g => h2 g.2)))
  refine mR_v (A' := endA A x) ?_ (fun c hc => by rw [e4, mu_ne (by omega), e1, up_hi hc]) (by rw [e4, mu_idx (by decide), e1, mu_self]) ?_
  · obtain ⟨k, hk, ek⟩ := end_of ht ⟨h1, h2⟩
    unfold endA
    rw [if_pos ⟨h1, h2⟩]
    refine hR.tp (fun c hc => by rw [e4, mu_ne (by omega), e1, mu_ne (by omega)]) (fun k hk => by rw [e4, mu_idx (by omega), e1, mu_idx (by omega)]) (by rw [e4, mu_self, ek, nI_clamp (by omega)]) (fun i hi => ?_)
    rw [ek, nI_clamp (by omega)] at hi
    rw [e4, mu_ne (by decide), e1, mu_ne (by decide)]
    exact h7 i (by omega)
  · unfold endV; rw [if_pos ⟨h1, h2⟩]
theorem RI.cut {B : Nat} {A : AS} (hI : RI B A) {x : Int32} : RI B (endA A x) := by
  obtain ⟨a1, a2, a3, a4, a5, a6, a7, a8⟩ := hI
  unfold endA
  by_cases c : ¬ x < 0 ∧ x ≤ nI A.tl
  · rw [if_pos c]
    obtain ⟨k, hk, ek⟩ := end_of a7 c
    have e : x.toNatClampNeg = k := by rw [ek, nI_clamp (by omega)]
    refine ⟨a1, a2, a3, a4, a5, a6, (by rw [show (A.tape A.T x.toNatClampNeg).tl = k from e]; omega), fun i hi => a8 i ?_⟩
    have hi : i < x.toNatClampNeg := hi
    omega
  · rw [if_neg c]
    exact ⟨a1, a2, a3, a4, a5, a6, a7, a8⟩
theorem c_fault {X : Nat × (Nat → Int32)} {d : Nat} {p : Nat → Nat} {sg : Mg} {A : AS} (hR : RC A p sg) : gF X (d + 1) 128 [vR 0] p sg (cR A A (fun _ => 0) (0, A.q) sg) :=
  gF_mono s_128 (fun r hr => by
    rw [hr, hR.2.2.2.2.2.2.2.2.1]
    exact cR_v hR (fun _ _ => rfl) rfl)
theorem m_fault {X : Nat × (Nat → Int32)} {d : Nat} {p : Nat → Nat} {sg : Mg} {A : AS} (hR : RM A sg) : gF X (d + 2) 184 [vR 800] p sg (mR A A (0, A.q) p sg) := by
  refine g_in (cd := k_184) (nL := 1) (rc := 13) rfl (g_A (a := 800) (kd := 0) (n := 12) rfl (by decide)) (g_c1 rfl) (b_184_0 (fun s1 e1 => ?_))
  refine mR_v (hR.th e1) (fun c hc => by rw [e1, up_hi hc]) (by rw [e1, mu_self]) ?_
  rw [e1, mu_idx (by decide), hR.2.2.2.2.2.2.2.1]
