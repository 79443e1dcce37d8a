/-! BREAD: the call of the class (made by wip/whole/gen89s.py) -/
theorem b_171_0 {X : Nat × (Nat → Int32)} {d : Nat} {p : Nat → Nat} {sg : Mg} {Q : am_R → Prop} {B : Nat} {S : Nat → Int32} (hI : Inv B S) (hL : cwL 250 sg S) (hD : cwD 200 sg S)
    (o1 : gW X (d + 4) k_171 8 [some (vR 0)] [vI (S 9), vR 1, vR 16] p sg Q) :
    gW X (d + 4) k_171 0 [some (vR 0)] [] p sg Q := by
  have b0 := hI.b0; have b1 := hI.b1; have b2 := hI.b2; have b3 := hI.b3; have b4 := hI.b4; have b5 := hI.b5; have b6 := hI.b6; have b7 := hI.b7; have b8 := hI.b8; have b9 := hI.b9; have b14 := hI.b14
  refine g_pure 7 (i' := 7) (lv' := [some (vR 0)]) (st' := [vR 202, vR 1, vR 16]) rfl ?_
  refine g_getI rfl (g_A (a := 202) (kd := 0) (n := 3) rfl (by decide)) (show _ = S 9 from hD.f5) ?_
  exact o1

theorem s_171r {X : Nat × (Nat → Int32)} {d : Nat} {p : Nat → Nat} {sg : Mg} {B : Nat} {A : AS} (hI : RI B A) (hR : RC A p sg) : gF X (d + 5) 171 [vR 0] p sg (fun r => ∃ s, (clC A sg s ∧ (clP A → ∀ i, i < A.tl → s 17 i = A.T i)) ∧ r = if clD A = true then gR0 p s else gRx p s 0) := by
  have hL := hR.2.1.1
  have hD := hR.2.1.2.1
  refine g_in (cd := k_171) (nL := 1) (rc := 12) rfl (g_A (a := 0) (kd := 0) (n := 11) rfl (by decide)) (g_c1 rfl) (b_171_0 hI.1 hL hD ?_)
  rw [hI.1.c9]
  refine g_cV1E (p' := p) rfl (args := [vR 16, vR 1, vI (nI (sn A.S 9))]) (rest := []) rfl rfl rfl (s_0 (d := d + 1) hI hR rfl) (fun s h => ?_)
  have hR2 : RC (useA A) p s := hR.cl h.1
  refine g_if1 (i' := 15) (P := clD A = true) rfl rfl g_neB (fun hc => ?_) (fun hc => ?_)
  · refine g_vret rfl ⟨s, h, ?_⟩
    rw [if_pos hc]
  · refine b_171_10 hI.1 hR2.2.1.1 hR2.2.1.2.1 ⟨s, h, ?_⟩
    rw [if_neg hc]
noncomputable def breadR (A : AS) : Nat × Int32 := if clD A = true then (0, nI (bset (fitB A.S A.T A.tl) (sn A.S 0))) else (1, 0)
theorem clP_of {A : AS} (h : clD A = true) : clP A := Classical.byContradiction (fun g => by rw [clD_f g] at h; cases h)
theorem c_bread {X : Nat × (Nat → Int32)} {d : Nat} {p : Nat → Nat} {sg : Mg} {B : Nat} {A : AS} (hI : RI B A) (hR : RC A p sg) : gF X (d + 7) 170 [vR 0] p sg (cR (useA A) (useA A) (fun _ => 0) (breadR A) sg) := by
  have b0 := hI.1.b0
  have ht := hI.2.2.2.2.2.2.1
  refine g_in (cd := k_170) (nL := 3) (rc := 12) rfl (g_A (a := 0) (kd := 0) (n := 11) rfl (by decide)) (g_c1 rfl) ?_
  show gW X (d + 6) k_170 0 [some (vR 0), none, none] [] p sg _
  refine g_pure 1 (i' := 1) (lv' := [some (vR 0), none, none]) (st' := [vR 0]) rfl ?_
  refine g_calV rfl (args := [vR 0]) (rest := []) rfl rfl (Nat.zero_le _) (s_171r (d := d + 1) hI hR) (fun q hq => ?_)
  obtain ⟨s, ⟨h1, h2⟩, hq⟩ := hq
  have hR2 : RC (useA A) p s := hR.cl h1
  have h8 : ∀ c, 800 ≤ c → s c = sg c := fun c hc => h1.1 c (by omega) (by omega) (by omega)
  by_cases hc : clD A = true
  · rw [if_pos hc] at hq
    subst hq
    refine gK_0 ?_
    have hP := clP_of hc
    have hQ : clQ A.S A.T A.tl s := ⟨h1.2.2.2.2, ht, hP.1, h2 hP, hP.2⟩
    refine g_pure 4 (i' := 6) (lv' := [some (vR 0), some (vI 0), some (vI 0)]) (st' := []) rfl ?_
    have key := g_upI (P := fun j => gW X (d + 6) k_170 6 [some (vR 0), some (vI (nI (bset (fitB A.S A.T A.tl) j))), some (vI (nI j))] [] p s (cR (useA A) (useA A) (fun _ => 0) (breadR A) sg)) (I := fun _ => True) (n := sn A.S 0) (a := 0) (by omega) trivial ?_ ?_
    · exact key
    · intro j _ hj _ ih
      have ih := ih trivial
      have bw := bset_up (P := fitB A.S A.T A.tl) (n := j) (m := 6) (by omega)
      refine b_170_6 hI.1 hR2.2.1.1 hR2.2.1.2.1 hQ (by omega) (by omega) (fun h => by omega) (fun _ h => ?_) (fun _ h => ?_)
      · rw [← bs_f (P := fitB A.S A.T A.tl) (by simpa using h)]
        exact ih
      · rw [nI_orbit (by omega), ← bs_t (P := fitB A.S A.T A.tl) h]
        exact ih
    · intro _
      have bw := bset_up (P := fitB A.S A.T A.tl) (n := sn A.S 0) (m := 6) (by omega)
      refine b_170_6 hI.1 hR2.2.1.1 hR2.2.1.2.1 hQ (by omega) (by omega) (fun _ => cR_v hR2 h8 ?_) (fun h => by omega) (fun h => by omega)
      unfold breadR
      rw [if_pos hc]
  · rw [if_neg hc] at hq
    subst hq
    refine gK_x (cR_x hR2 h8 (c := 0) ?_ rfl)
    unfold breadR
    rw [if_neg hc]
theorem RI.use {B : Nat} {A : AS} (hI : RI B A) : RI B (useA A) := by
  obtain ⟨a1, a2, a3, a4, a5, a6, a7, a8⟩ := hI
  exact ⟨a1, a2, a3, a4, a5, a6, Nat.zero_le _, fun i hi => absurd hi (Nat.not_lt_zero _)⟩
