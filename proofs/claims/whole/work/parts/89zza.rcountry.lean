/-! COUNTRY: the call, in the reference (made by wip/whole/gen89zza.py) -/
theorem b_187u {X : Nat × (Nat → Int32)} {d : Nat} {p : Nat → Nat} {sg : Mg} {Q : am_R → Prop} {n : Nat} (u_n : n ≤ 400) (kn_800_8 : sg 800 8 = nI n)
    (o1 : ∀ s1 : Mg, s1 = mu sg 800 0 0 → ∀ s2 : Mg, s2 = mu s1 800 10 (nI n) → ∀ s3 : Mg, s3 = mu s2 800 8 0 → ∀ s4 : Mg, s4 = mu s3 800 9 0 → Q (gR0 p s4)) :
    gW X (d) k_187 0 [some (vR 800)] [] p sg Q := by
  refine g_pure 2 (i' := 2) (lv' := [some (vR 800)]) (st' := [vI 0, vR 800]) rfl ?_
  refine g_putI rfl (g_A (a := 800) (kd := 0) (n := 12) rfl (by decide)) ?_
  refine g_setv (fun s1 es1 => ?_)
  have kns1_800_8 : s1 800 8 = nI n := by rw [es1, mu_idx (by decide)]; exact kn_800_8
  refine g_pure 2 (i' := 5) (lv' := [some (vR 800)]) (st' := [vR 800, vR 800]) rfl ?_
  refine g_getI rfl (g_A (a := 800) (kd := 0) (n := 12) rfl (by decide)) (show _ = nI n from kns1_800_8) ?_
  refine g_putI rfl (g_A (a := 800) (kd := 0) (n := 12) rfl (by decide)) ?_
  refine g_setv (fun s2 es2 => ?_)
  have kns2_800_8 : s2 800 8 = nI n := by rw [es2, mu_idx (by decide)]; exact kns1_800_8
  refine g_pure 2 (i' := 9) (lv' := [some (vR 800)]) (st' := [vI 0, vR 800]) rfl ?_
  refine g_putI rfl (g_A (a := 800) (kd := 0) (n := 12) rfl (by decide)) ?_
  refine g_setv (fun s3 es3 => ?_)
  have kns3_800_8 : s3 800 8 = nI 0 := by rw [es3]; exact mu_self.trans ((show (0 : Int32) = nI 0 from rfl))
  refine g_pure 2 (i' := 12) (lv' := [some (vR 800)]) (st' := [vI 0, vR 800]) rfl ?_
  refine g_putI rfl (g_A (a := 800) (kd := 0) (n := 12) rfl (by decide)) ?_
  refine g_setv (fun s4 es4 => ?_)
  have kns4_800_8 : s4 800 8 = nI 0 := by rw [es4, mu_idx (by decide)]; exact kns3_800_8
  refine g_vret rfl ?_
  exact o1 s1 es1 s2 es2 s3 es3 s4 es4

/-- what reading a text keeps, in the reference -/
def UFm (sg s : Mg) : Prop := (∀ c, c ≠ 800 → c ≠ 801 → s c = sg c) ∧ (∀ k, k ≠ 0 → k ≠ 8 → k ≠ 9 → k ≠ 10 → k ≠ 11 → k ≠ 15 → s 800 k = sg 800 k) ∧ s 800 0 = 0 ∧ s 800 8 = 0 ∧ ∀ i, 709 ≤ i → s 801 i = sg 801 i
def rdM (R : PRs) (sg : Mg) (p : Nat → Nat) (r : am_R) : Prop := match R with
  | .inl f => ∃ s, (UFm sg s ∧ s 800 11 = nI f) ∧ r = gRv p s (-1)
  | .inr q => ∃ s v, (UFm sg s ∧ s 801 = q.2 ∧ (0 : Int32) ≤ v) ∧ r = gRv p s v
/-- the tape is used up -/
theorem s_187u {X : Nat × (Nat → Int32)} {d : Nat} {p : Nat → Nat} {sg : Mg} {tl : Nat} (ht : tl ≤ 400) (h8 : sg 800 8 = nI tl) : gF X (d + 1) 187 [vR 800] p sg (fun r => ∃ s, ((∀ c, c ≠ 800 → s c = sg c) ∧ (∀ k, k ≠ 0 → k ≠ 8 → k ≠ 9 → k ≠ 10 → s 800 k = sg 800 k) ∧ s 800 0 = 0 ∧ s 800 8 = 0 ∧ s 800 9 = 0 ∧ s 800 10 = nI tl) ∧ r = gR0 p s) := by
  refine g_in (cd := k_187) (nL := 1) (rc := 13) rfl (g_A (a := 800) (kd := 0) (n := 12) rfl (by decide)) (g_c1 rfl) (b_187u (d := d) ht h8 (fun s1 e1 s2 e2 s3 e3 s4 e4 => ⟨s4, ⟨fun c hc => ?_, fun k k0 k8 k9 k10 => ?_, ?_, ?_, ?_, ?_⟩, rfl⟩))
  · rw [e4, mu_ne hc, e3, mu_ne hc, e2, mu_ne hc, e1, mu_ne hc]
  · rw [e4, mu_idx k9, e3, mu_idx k8, e2, mu_idx k10, e1, mu_idx k0]
  · rw [e4, mu_idx (by decide), e3, mu_idx (by decide), e2, mu_idx (by decide), e1, mu_self]
  · rw [e4, mu_idx (by decide), e3, mu_self]
  · rw [e4, mu_self]
  · rw [e4, mu_idx (by decide), e3, mu_idx (by decide), e2, mu_self]
theorem s_186c {X : Nat × (Nat → Int32)} {d : Nat} {p : Nat → Nat} {sg : Mg} {B : Nat} {S T : Nat → Int32} {tl : Nat} (hI : Inv B S) (hStr : Str S) (hS : sg 801 = S) (ht : tl ≤ 400) (h8 : sg 800 8 = nI tl) (h2 : ∀ i, i < tl → sg 805 i = T i) : gF X (d + 10) 186 [vR 800, vI 1] p sg (rdM (prAll T tl S) sg p) := by
  refine g_in (cd := k_186) (nL := 3) (rc := 13) rfl (g_A (a := 800) (kd := 0) (n := 12) rfl (by decide)) (g_c1 rfl) ?_
  show gW X (d + 9) k_186 0 [some (vR 800), some (vI 1), none] [] p sg _
  refine g_pure 1 (i' := 1) (lv' := [some (vR 800), some (vI 1), none]) (st' := [vR 800]) rfl ?_
  refine g_cV0E (p' := p) rfl (args := [vR 800]) (rest := []) rfl rfl rfl (s_187u (d := d + 8) ht h8) (fun s1 h1 => ?_)
  refine g_pure 2 (i' := 4) (lv' := [some (vR 800), some (vI 1), none]) (st' := [vI 0, vR 800]) rfl ?_
  refine g_putI rfl (g_A (a := 800) (kd := 0) (n := 12) rfl (by decide)) ?_
  have k1 : ∀ c, c ≠ 800 → mu s1 800 15 0 c = sg c := fun c hc => by rw [mu_ne hc]; exact h1.1 c hc
  have k2 : ∀ k, k ≠ 0 → k ≠ 8 → k ≠ 9 → k ≠ 10 → k ≠ 15 → mu s1 800 15 0 800 k = sg 800 k := fun k k0 k8 k9 k10 k15 => by rw [mu_idx k15]; exact h1.2.1 k k0 k8 k9 k10
  have k3 : mu s1 800 15 0 800 0 = 0 := by rw [mu_idx (by decide)]; exact h1.2.2.1
  have k4 : mu s1 800 15 0 800 8 = 0 := by rw [mu_idx (by decide)]; exact h1.2.2.2.1
  have k5 : mu s1 800 15 0 800 9 = nI 0 := by rw [mu_idx (by decide)]; exact h1.2.2.2.2.1
  have k6 : mu s1 800 15 0 800 10 = nI tl := by rw [mu_idx (by decide)]; exact h1.2.2.2.2.2
  generalize mu s1 800 15 0 = s2 at k1 k2 k3 k4 k5 k6
  have hX : MX T tl s2 := ⟨ht, k6, fun i hi => by rw [k1 805 (by decide)]; exact h2 i hi⟩
  refine g_pure 1 (i' := 6) (lv' := [some (vR 800), some (vI 1), none]) (st' := [vR 800]) rfl ?_
  refine g_cV0E (p' := p) rfl (args := [vR 800]) (rest := []) rfl rfl rfl (s_188 (d := d + 7) hX k5 (Nat.zero_le _)) (fun s3 h3 => ?_)
  have hX3 := hX.mf h3.1
  have hb := spK_ok (T := T) (n := tl) (k := 0) (Nat.zero_le _)
  have e801 : s3 801 = S := (h3.1.1 801 (by decide)).trans ((k1 801 (by decide)).trans hS)
  have hU : ∀ s4, FRm s3 s4 → UFm sg s4 := fun s4 h4 => by
    refine ⟨fun c c1 c2 => ?_, fun k k0 k8 k9 k10 k11 k15 => ?_, ?_, ?_, fun i hi => ?_⟩
    · rw [h4.1 c c1 c2, h3.1.1 c c1]; exact k1 c c1
    · rw [h4.2.1 k k9 k11, h3.1.2 k k9 k11]; exact k2 k k0 k8 k9 k10 k15
    · rw [h4.2.1 0 (by decide) (by decide), h3.1.2 0 (by decide) (by decide)]; exact k3
    · rw [h4.2.1 8 (by decide) (by decide), h3.1.2 8 (by decide) (by decide)]; exact k4
    · rw [h4.2.2 i hi, h3.1.1 801 (by decide), k1 801 (by decide)]
  refine g_pure 1 (i' := 8) (lv' := [some (vR 800), some (vI 1), none]) (st' := [vR 800]) rfl ?_
  refine g_getI rfl (g_A (a := 800) (kd := 0) (n := 12) rfl (by decide)) (show _ = nI (spK T tl 0) from h3.2.1) ?_
  refine g_pure 1 (i' := 10) (lv' := [some (vR 800), some (vI 1), none]) (st' := [vR 800, vI (nI (spK T tl 0))]) rfl ?_
  refine g_getI rfl (g_A (a := 800) (kd := 0) (n := 12) rfl (by decide)) (show _ = nI tl from hX3.2.1) ?_
  unfold prAll
  refine g_if2 (i' := 14) (P := ¬ spK T tl 0 = tl) rfl rfl (not_congr (nI_eq (by omega) (by omega))) (fun hne => ?_) (fun he2 => ?_)
  · rw [sel_f (by omega)]
    refine g_pure 2 (i' := 16) (lv' := [some (vR 800), some (vI 1), some (vI (nI 0))]) (st' := []) rfl ?_
    obtain ⟨r, g1, g2⟩ := l_186 (X := X) (d := d) (p := p) (T := T) (n := tl) 14 0 0 S s3 rfl hI hStr e801 ⟨hX3, Nat.zero_le _, spK T tl 0, h3.2.1, hb.2.1, spK_sp (Nat.zero_le _)⟩ (FRm.rf s3)
    refine ⟨r, g1, ?_⟩
    have g2 : raM (raC T tl 14 0 S) s3 p r := g2
    cases hR : raC T tl 14 0 S with
    | inl f =>
      rw [hR] at g2
      obtain ⟨s4, a1, a2⟩ := g2
      exact ⟨s4, ⟨hU s4 a1.1, a1.2⟩, a2⟩
    | inr q =>
      rw [hR] at g2
      obtain ⟨s4, v, a1, a2⟩ := g2
      exact ⟨s4, v, ⟨hU s4 a1.1, a1.2⟩, a2⟩
  · rw [sel_t (by omega)]
    refine g_pure 1 (i' := 13) (lv' := [some (vR 800), some (vI 1), none]) (st' := [vI 0]) rfl ?_
    exact g_iret rfl ⟨s3, 0, ⟨hU s3 (FRm.rf s3), e801, by decide⟩, rfl⟩
theorem RM.us {A : AS} {sg s : Mg} (hR : RM A sg) (h0 : s 801 = A.S) (h1 : ∀ c, c = 802 ∨ c = 804 ∨ c = 815 → s c = sg c) (h2 : ∀ k, k = 5 ∨ k = 6 → s 800 k = sg 800 k) (h3 : s 800 8 = 0) {q : Int32} (h4 : s 800 13 = q) : RM (usQ A q) s := by
  obtain ⟨r1, r2, r3, r4, r5, r6, r7, r8, r9⟩ := hR
  refine ⟨h0, ?_, fun i j hi hj => ?_, ?_, fun hf j hj => ?_, h3, fun i hi => absurd hi (Nat.not_lt_zero _), h4, ?_⟩
  · rw [h2 6 (by omega)]; exact r2
  · rw [h1 804 (by omega)]; exact r3 i j hi hj
  · rw [h2 5 (by omega)]; exact r4
  · rw [h1 802 (by omega)]; exact r5 hf j hj
  · rw [h1 815 (by omega)]; exact r9
theorem m_country {X : Nat × (Nat → Int32)} {d : Nat} {p : Nat → Nat} {sg : Mg} {B : Nat} {A : AS} (hI : RI B A) (hR : RM A sg) : gF X (d + 11) 185 [vR 800] p sg (mR (couF A) (couS A) (couR A) p sg) := by
  have ht := hI.2.2.2.2.2.2.1
  have b6 := hI.1.b6
  obtain ⟨r1, r2, r3, r4, r5, r6, r7, r8, r9⟩ := id hR
  refine g_in (cd := k_185) (nL := 3) (rc := 13) rfl (g_A (a := 800) (kd := 0) (n := 12) rfl (by decide)) (g_c1 rfl) ?_
  show gW X (d + 10) k_185 0 [some (vR 800), none, none] [] p sg _
  refine g_pure 2 (i' := 2) (lv' := [some (vR 800), some (vI 0), none]) (st' := []) rfl ?_
  have key := g_upI (P := fun i => ∀ s, (∀ c, c ≠ 803 → s c = sg c) → (∀ j, j < i → s 803 j = sg 801 j) → gW X (d + 10) k_185 2 [some (vR 800), some (vI (nI i)), none] [] p s (mR (couF A) (couS A) (couR A) p sg)) (I := fun _ => True) (n := 1558) (a := 0) (by omega) trivial ?_ ?_
  · exact key sg (fun _ _ => rfl) (fun j hj => absurd hj (Nat.not_lt_zero _))
  · intro i _ hi _ ih s h1 h2
    refine b_185_2 (d := d) (by omega) (fun h => by omega) (fun _ s2 e2 => ih trivial s2 (fun c hc => by rw [e2, mu_ne hc]; exact h1 c hc) (fun j hj => ?_))
    by_cases e : j = i
    · subst e; rw [e2, mu_self, h1 801 (by decide)]
    · rw [e2, mu_idx e]; exact h2 j (by omega)
  intro _ s h1 h2
  refine b_185_2 (d := d) (by omega) (fun _ => ?_) (fun h => by omega)
  refine g_pure 2 (i' := 17) (lv' := [some (vR 800), some (vI (nI 1558)), none]) (st' := [vI 1, vR 800]) rfl ?_
  refine g_calV rfl (args := [vR 800, vI 1]) (rest := []) rfl rfl (Nat.zero_le _) (s_186c (d := d) (T := A.T) (tl := A.tl) hI.1 hI.2.1 ((h1 801 (by decide)).trans r1) ht (by rw [h1 800 (by decide)]; exact r6) (fun i hi => by rw [h1 805 (by decide)]; exact r7 i hi)) (fun r hr => ?_)
  -- the world put back
  have back : ∀ (s9 : Mg) (v : Int32) (q : Int32) (c : Nat), (∀ c, c ≠ 800 → c ≠ 801 → s9 c = s c) → (∀ k, k = 5 ∨ k = 6 → s9 800 k = sg 800 k) → s9 800 0 = nI (c + 1) → s9 800 8 = 0 → s9 800 13 = q → (∀ i, 709 ≤ i → s9 801 i = s 801 i) → couF A = usQ A q → (couR A).1 = c + 1 → gW X (d + 10) k_185 49 [some (vR 800), some (vI v), none] [] p s9 (mR (couF A) (couS A) (couR A) p sg) := fun s9 v q c c1 c2 c3 c4 c5 c6 hq hc => by
    refine g_pure 2 (i' := 51) (lv' := [some (vR 800), some (vI v), some (vI (nI 0))]) (st' := []) rfl ?_
    have key := g_upI (P := fun i => ∀ s, (∀ c, c ≠ 801 → s c = s9 c) → (∀ j, j < i → s 801 j = A.S j) → (∀ j, i ≤ j → s 801 j = s9 801 j) → gW X (d + 10) k_185 51 [some (vR 800), some (vI v), some (vI (nI i))] [] p s (mR (couF A) (couS A) (couR A) p sg)) (I := fun _ => True) (n := 1558) (a := 0) (by omega) trivial ?_ ?_
    · exact key s9 (fun _ _ => rfl) (fun j hj => absurd hj (Nat.not_lt_zero _)) (fun _ _ => rfl)
    · intro i _ hi _ ih s' h3 h4 h5
      refine b_185_51 (d := d) (by omega) (fun h => by omega) (fun _ s2 e2 => ih trivial s2 (fun c hc => by rw [e2, mu_ne hc]; exact h3 c hc) (fun j hj => ?_) (fun j hj => ?_))
      · by_cases e : j = i
        · subst e; rw [e2, mu_self, h3 803 (by decide), c1 803 (by decide) (by decide), h2 j hi, r1]
        · rw [e2, mu_idx e]; exact h4 j (by omega)
      · rw [e2, mu_idx (by omega)]; exact h5 j (by omega)
    · intro _ s' h3 h4 h5
      refine b_185_51 (d := d) (by omega) (fun _ => ?_) (fun h => by omega)
      refine mR_x (c := c) ?_ (fun c hc => ?_) (by rw [h3 800 (by decide)]; exact c3) hc
      · rw [hq]
        refine hR.us ?_ (fun c hc => ?_) (fun k hk => by rw [h3 800 (by decide)]; exact c2 k hk) (by rw [h3 800 (by decide)]; exact c4) (by rw [h3 800 (by decide)]; exact c5)
        · funext j
          by_cases e : j < 1558
          · exact h4 j e
          · rw [h5 j (by omega), c6 j (by omega), h1 801 (by decide), r1]
        · rw [h3 c (by omega), c1 c (by omega) (by omega), h1 c (by omega)]
      · rw [h3 c (by omega), c1 c (by omega) (by omega), h1 c (by omega)]
  cases hP : prAll A.T A.tl A.S with
  | inl f =>
    rw [hP] at hr
    obtain ⟨s3, ⟨hU, h11⟩, rfl⟩ := hr
    have hcF : couF A = usQ A (nI f) := by unfold couF; rw [hP]
    have hcR : couR A = (1, 0) := by unfold couR; rw [hP]
    refine gK_v ?_
    refine g_pure 1 (i' := 19) (lv' := [some (vR 800), some (vI (-1)), none]) (st' := []) rfl ?_
    have m1 : ¬ (0 : Int32) ≤ -1 := by decide
    refine b_185_19 (d := d) (fun h => absurd h m1) (fun h => absurd h m1) (fun h => absurd h m1) (fun _ _ _ h => absurd h m1) (fun _ _ _ h => absurd h m1) (fun _ s13 e13 _ s22 e22 => ?_)
    refine back s22 _ (nI f) 0 (fun c c1 c2 => ?_) (fun k hk => ?_) ?_ ?_ ?_ (fun i hi => ?_) hcF (by rw [hcR])
    · rw [e22, mu_ne c1, e13, mu_ne c1]; exact hU.1 c c1 c2
    · rw [e22, mu_idx (by omega), e13, mu_idx (by omega), hU.2.1 k (by omega) (by omega) (by omega) (by omega) (by omega) (by omega), h1 800 (by decide)]
    · rw [e22, mu_self]
    · rw [e22, mu_idx (by decide), e13, mu_idx (by decide)]; exact hU.2.2.2.1
    · rw [e22, mu_idx (by decide), e13, mu_self]; exact h11
    · rw [e22, mu_ne (by decide), e13, mu_ne (by decide)]; exact hU.2.2.2.2 i hi
  | inr q =>
    rw [hP] at hr
    obtain ⟨s3, v, ⟨hU, h801, hv⟩, rfl⟩ := hr
    have hok : OKS B A.S q.2 := prAll_ok hI.1 hI.2.1 hP
    have hcF : couF A = usQ A (-1) := by unfold couF; rw [hP]
    have h6 : s3 801 6 = nI (sn A.S 6) := by rw [h801, hok.2.2.1]; exact hI.1.c6
    refine gK_v ?_
    refine g_pure 1 (i' := 19) (lv' := [some (vR 800), some (vI v), none]) (st' := []) rfl ?_
    refine b_185_19 (d := d) (fun _ s2 e2 _ hlt s7 e7 s8 e8 => ?_) (fun _ s2 e2 _ he s9 e9 => ?_) (fun _ _ _ h => absurd hv h) (fun h => absurd hv h) (fun h => absurd hv h) (fun h => absurd hv h)
    · have e6 : s2 801 6 = nI (sn A.S 6) := by rw [e2, mu_ne (by decide)]; exact h6
      rw [e6] at hlt e7
      have hlt : sn A.S 6 ≠ 12 := fun h => hlt (by rw [h]; rfl)
      have hcR : couR A = (0, nI (sn A.S 6 + 1)) := by unfold couR; rw [hP]; exact if_neg (by omega)
      have hcS : couS A = (upd q.2 6 (nI (sn A.S 6 + 1)), 0, A.ac, A.f, A.im, A.T, 0, -1) := by unfold couS; rw [hP]
      have e8v : s8 801 6 = nI (sn A.S 6 + 1) := by rw [e8, mu_ne (by decide), e7, mu_self]; exact nI_add _ 1
      rw [e8v]
      have f800 : ∀ k, k ≠ 13 → k ≠ 6 → s8 800 k = s3 800 k := fun k k1 k2 => by rw [e8, mu_idx k2, e7, mu_ne (by decide), e2, mu_idx k1]
      have fc : ∀ c, c ≠ 800 → c ≠ 801 → c ≠ 803 → s8 c = sg c := fun c c1 c2 c3 => by rw [e8, mu_ne c1, e7, mu_ne c2, e2, mu_ne c1, hU.1 c c1 c2, h1 c c3]
      refine mR_v ?_ (fun c hc => fc c (by omega) (by omega) (by omega)) (by rw [f800 0 (by decide) (by decide)]; exact hU.2.2.1) hcR
      rw [hcS]
      refine ⟨?_, ?_, fun i j hi => absurd hi (Nat.not_lt_zero _), ?_, fun hf j hj => ?_, ?_, fun i hi => absurd hi (Nat.not_lt_zero _), ?_, ?_⟩
      · rw [e8, mu_ne (by decide), e7, mu_row, e2, mu_ne (by decide), h801]
        show upd q.2 6 (nI (sn A.S 6) + 1) = _
        rw [show nI (sn A.S 6) + 1 = nI (sn A.S 6 + 1) from nI_add _ 1]
      · rw [e8, mu_self]; rfl
      · rw [f800 5 (by decide) (by decide), hU.2.1 5 (by decide) (by decide) (by decide) (by decide) (by decide) (by decide), h1 800 (by decide)]; exact r4
      · rw [fc 802 (by decide) (by decide) (by decide)]; exact r5 hf j hj
      · rw [f800 8 (by decide) (by decide)]; exact hU.2.2.2.1
      · rw [e8, mu_idx (by decide), e7, mu_ne (by decide), e2, mu_self]
      · rw [fc 815 (by decide) (by decide) (by decide)]; exact r9
    · have e6 : s2 801 6 = nI (sn A.S 6) := by rw [e2, mu_ne (by decide)]; exact h6
      rw [e6, show (12 : Int32) = nI 12 from rfl, nI_eq (by omega) (by decide)] at he
      have hcR : couR A = (2, 0) := by unfold couR; rw [hP]; exact if_pos (by omega)
      refine back s9 _ (-1) 1 (fun c c1 c2 => ?_) (fun k hk => ?_) ?_ ?_ ?_ (fun i hi => ?_) hcF (by rw [hcR])
      · rw [e9, mu_ne c1, e2, mu_ne c1]; exact hU.1 c c1 c2
      · rw [e9, mu_idx (by omega), e2, mu_idx (by omega), hU.2.1 k (by omega) (by omega) (by omega) (by omega) (by omega) (by omega), h1 800 (by decide)]
      · rw [e9, mu_self]
      · rw [e9, mu_idx (by decide), e2, mu_idx (by decide)]; exact hU.2.2.2.1
      · rw [e9, mu_idx (by decide), e2, mu_self]
      · rw [e9, mu_ne (by decide), e2, mu_ne (by decide)]; exact hU.2.2.2.2 i hi
