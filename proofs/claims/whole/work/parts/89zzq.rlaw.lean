/-! LAW: the whole text, in the reference (made by wip/whole/gen89zzq.py) -/
theorem lnLm_fw {R : Nat ⊕ (Nat × LE × LLn)} {T : Nat → Int32} {n : Nat} {sg s : Mg} {p : Nat → Nat} {r : am_R} (h : FW sg s) (g : lnLm R T n s p r) : lnLm R T n sg p r := by
  cases R with
  | inl f => obtain ⟨s2, g1, g2⟩ := g; exact ⟨s2, ⟨h.tr g1.1, g1.2⟩, g2⟩
  | inr q => obtain ⟨s2, g1, g2⟩ := g; exact ⟨s2, ⟨h.tr g1.1, g1.2⟩, g2⟩
theorem s_190l {X : Nat × (Nat → Int32)} {d : Nat} {p : Nat → Nat} {sg : Mg} {T : Nat → Int32} {n k l : Nat} {E : LE} {L : LLn} (hM : MK T n k sg) (hC : LCm E sg) (hL : LLm L sg) (hl : L.length = l) (h12 : l ≤ 12) (hE : E.length ≤ k) (hO : EOK E L) : gF X (d + 28) 190 [vR 800, vI 0, vI (nI l)] p sg (lnLm (sel (l < 12) (plLine T n k E L) (.inl (spK T n k))) T n sg p) := by
  refine g_in (cd := k_190) (nL := 3) (rc := 13) rfl (g_A (a := 800) (kd := 0) (n := 12) rfl (by decide)) (g_c1 rfl) ?_
  show gW X (d + 27) k_190 0 [some (vR 800), some (vI 0), some (vI (nI l))] [] p sg _
  refine g_pure 1 (i' := 1) (lv' := [some (vR 800), some (vI 0), some (vI (nI l))]) (st' := [vR 800]) rfl ?_
  refine g_cV0E (p' := p) rfl (args := [vR 800]) (rest := []) rfl rfl rfl (s_191l (d := d + 24) hM) (fun s hs => ?_)
  have b1 : ∀ i, s 801 i = sg 801 i := fun i => by rw [hs.2.1.1 801 (by decide)]
  have hF : FW sg s := (FW.rf sg).mf hs.2.1
  have fl : ∀ s' : Mg, gW X (d + 27) k_190 21 [some (vR 800), some (vI 0), some (vI (nI l))] [] p s' (fun r => r = gRv p s' 0) := fun s' => by
    refine g_pure 1 (i' := 22) (lv' := [some (vR 800), some (vI 0), some (vI (nI l))]) (st' := [vI 0]) rfl ?_
    exact g_bret rfl g_nar0 rfl
  refine g_pure 2 (i' := 4) (lv' := [some (vR 800), some (vI 0), some (vI (nI l))]) (st' := [vI 0, vI (nI l)]) rfl ?_
  refine g_if1 (i' := 7) (P := True) rfl rfl cd_eq0 (fun _ => ?_) (fun h => absurd trivial h)
  refine g_pure 1 (i' := 8) (lv' := [some (vR 800), some (vI 0), some (vI (nI l))]) (st' := [vI (nI 12), vI (nI l)]) rfl ?_
  refine g_if2 (i' := 21) (P := 12 ≤ l) rfl rfl (nI_leI (by decide) (by omega)) (fun hge => ?_) (fun hlt => ?_)
  · obtain ⟨r, g1, rfl⟩ := fl s
    exact ⟨_, g1, by rw [sel_f (by omega)]; exact ⟨s, ⟨hF, hs.2.2⟩, rfl⟩⟩
  · rw [sel_t (by omega)]
    refine g_pure 1 (i' := 10) (lv' := [some (vR 800), some (vI 0), some (vI (nI l))]) (st' := [vI 0]) rfl ?_
    refine g_if1 (i' := 15) (P := True) rfl rfl cd_eq0 (fun _ => ?_) (fun h => absurd trivial h)
    refine g_pure 2 (i' := 17) (lv' := [some (vR 800), some (vI 0), some (vI (nI l))]) (st' := [vI (nI l), vR 800]) rfl ?_
    refine g_calV rfl (args := [vR 800, vI (nI l)]) (rest := []) rfl rfl (Nat.zero_le _) (s_219 (d := d) hs.1 (hC.mf hs.2.1) (hL.lo (fun i _ => b1 i)) hl (by omega) hE hO) (fun q hq => ?_)
    have hq := lnLm_fw hF hq
    cases hR : plLine T n k E L with
    | inl f =>
      rw [hR] at hq
      obtain ⟨s2, h3, rfl⟩ := hq
      refine gK_v (g_if1 (i' := 21) (P := True) rfl rfl cd_eq0 (fun _ => ?_) (fun h => absurd trivial h))
      obtain ⟨r, g1, rfl⟩ := fl s2
      exact ⟨_, g1, ⟨s2, h3, rfl⟩⟩
    | inr v =>
      rw [hR] at hq
      obtain ⟨s2, h3, rfl⟩ := hq
      refine gK_v (g_if1 (i' := 21) (P := False) rfl rfl cd_eq1 False.elim (fun _ => ?_))
      refine g_pure 2 (i' := 22) (lv' := [some (vR 800), some (vI 0), some (vI (nI l))]) (st' := [vI 1]) rfl ?_
      exact g_bret rfl g_nar1 ⟨s2, h3, rfl⟩
/-- how reading a text of the law ends, in the reference -/
def raW (R : Nat ⊕ (Nat × LE × LLn)) (sg : Mg) (p : Nat → Nat) (r : am_R) : Prop := match R with
  | .inl f => ∃ s, (FW sg s ∧ s 800 11 = nI f) ∧ r = gRv p s (-1)
  | .inr q => ∃ s, (FW sg s ∧ LCm q.2.1 s ∧ LLm q.2.2 s) ∧ r = gRv p s (nI q.2.2.length)
theorem LLm.mf {L : LLn} {sg s : Mg} (h : LLm L sg) (g : MF sg s) : LLm L s := h.lo (fun i _ => by rw [g.1 801 (by decide)])
theorem l_186l {X : Nat × (Nat → Int32)} {d : Nat} {p : Nat → Nat} {sg0 : Mg} {T : Nat → Int32} {n : Nat} : ∀ (j l k : Nat) (E : LE) (L : LLn) (s : Mg), l + j = 12 → L.length = l → E.length ≤ k → EOK E L → LCm E s → LLm L s → MK T n k s → FW sg0 s → gW X (d + 28) k_186 16 [some (vR 800), some (vI 0), some (vI (nI l))] [] p s (raW (raL T n j k E L) sg0 p) := by
  intro j
  induction j using Nat.strongRecOn with
  | ind j ih =>
    intro l k E L s hl hLl hE hO hC hL hM hF
    have hk0 := hM.2.1
    refine g_pure 3 (i' := 19) (lv' := [some (vR 800), some (vI 0), some (vI (nI l))]) (st' := [vI (nI l), vI 0, vR 800]) rfl ?_
    refine g_calV rfl (args := [vR 800, vI 0, vI (nI l)]) (rest := []) rfl rfl (Nat.zero_le _) (s_190l (d := d) hM hC hL hLl (by omega) hE hO) (fun r hr => ?_)
    have fl : ∀ (s' : Mg) (f : Nat), raL T n j k E L = .inl f → FW s s' → s' 800 11 = nI f → gW X (d + 28) k_186 20 [some (vR 800), some (vI 0), some (vI (nI l))] [vI 0] p s' (raW (raL T n j k E L) sg0 p) := fun s' f e h1 h2 => by
      refine g_if1 (i' := 23) (P := False) rfl rfl cd_ne0 False.elim (fun _ => ?_)
      refine g_pure 1 (i' := 22) (lv' := [some (vR 800), some (vI 0), some (vI (nI l))]) (st' := [vI (-1)]) rfl ?_
      refine g_iret rfl ?_
      rw [e]
      exact ⟨s', ⟨hF.tr h1, h2⟩, rfl⟩
    by_cases hj : l < 12
    · rw [sel_t hj] at hr
      obtain ⟨j2, rfl⟩ : ∃ j2, j = j2 + 1 := ⟨j - 1, by omega⟩
      cases hR : plLine T n k E L with
      | inl f =>
        rw [hR] at hr
        obtain ⟨s2, h3, rfl⟩ := hr
        exact gK_v (fl s2 f (raL_at hR) h3.1 h3.2)
      | inr q =>
        rw [hR] at hr
        obtain ⟨s2, h3, rfl⟩ := hr
        have gl := plLine_n hk0 hE hR
        have go := plLine_e hR
        have hF2 := hF.tr h3.1
        obtain ⟨hX, hk, a, ha9, ha, he⟩ := h3.2.1
        have hn := hX.1
        have hb := spK_ok (T := T) hk
        have hx := nxK_ok (T := T) hk
        rw [raL_go hR]
        refine gK_v (g_if1 (i' := 23) (P := True) rfl rfl cd_ne1 (fun _ => ?_) (fun h => absurd trivial h))
        refine g_pure 1 (i' := 24) (lv' := [some (vR 800), some (vI 0), some (vI (nI l))]) (st' := [vR 800]) rfl ?_
        refine g_cV0E (p' := p) rfl (args := [vR 800]) (rest := []) rfl rfl rfl (s_188 (d := d + 26) hX ha9 ha) (fun s3 h4 => ?_)
        rw [he] at h4
        have hX3 := hX.mf h4.1
        have hF3 := hF2.mf h4.1
        have hC3 := h3.2.2.1.mf h4.1
        have hL3 := h3.2.2.2.mf h4.1
        refine g_pure 1 (i' := 26) (lv' := [some (vR 800), some (vI 0), some (vI (nI l))]) (st' := [vR 800]) rfl ?_
        refine g_getI rfl (g_A (a := 800) (kd := 0) (n := 12) rfl (by decide)) (show _ = nI (spK T n q.1) from h4.2.1) ?_
        refine g_pure 1 (i' := 28) (lv' := [some (vR 800), some (vI 0), some (vI (nI l))]) (st' := [vR 800, vI (nI (spK T n q.1))]) rfl ?_
        refine g_getI rfl (g_A (a := 800) (kd := 0) (n := 12) rfl (by decide)) (show _ = nI n from hX3.2.1) ?_
        refine g_if2 (i' := 34) (P := ¬ spK T n q.1 = n) rfl rfl (not_congr (nI_eq (by omega) (by omega))) (fun hne => ?_) (fun he2 => ?_)
        rotate_left
        · rw [sel_t (by omega)]
          refine g_pure 3 (i' := 33) (lv' := [some (vR 800), some (vI 0), some (vI (nI l))]) (st' := [vI (nI l + 1)]) rfl ?_
          rw [show nI l + 1 = nI (l + 1) from nI_add l 1]
          exact g_iret rfl ⟨s3, ⟨hF3, hC3, hL3⟩, by rw [gl.2.2.2, hLl]⟩
        · rw [sel_f (by omega)]
          refine g_pure 3 (i' := 37) (lv' := [some (vR 800), some (vI 0), some (vI (nI l))]) (st' := [vI 59, vI 59, vR 800]) rfl ?_
          refine g_cV1 rfl (args := [vR 800, vI 59, vI 59]) (rest := []) rfl rfl rfl (s_189 (d := d + 27) hX3 h4.2.1 hb.2.1) ?_
          have hc : (spK T n q.1 < n ∧ ¬ T (spK T n q.1) < 59 ∧ ¬ 59 < T (spK T n q.1)) ↔ isW T n q.1 [59] := by
            rw [isW_59 hk]
            constructor
            · intro ⟨c1, c2, c3⟩
              exact ⟨c1, Int32.le_antisymm (Int32.not_lt.mp c3) (Int32.not_lt.mp c2)⟩
            · intro ⟨c1, c2⟩
              rw [c2]
              exact ⟨c1, by decide, by decide⟩
          refine g_if1 (i' := 41) (P := dcN (spK T n q.1 < n ∧ ¬ T (spK T n q.1) < 59 ∧ ¬ 59 < T (spK T n q.1)) = true) rfl rfl g_neB (fun hw => ?_) (fun hw => ?_)
          · have hw := hc.mp (dcN_i.mp hw)
            have hG := nxK_G (c := 59) ⟨by decide, by decide⟩ ((isW_59 hk).mp hw)
            rw [sel_t hw]
            refine g_pure 2 (i' := 43) (lv' := [some (vR 800), some (vI 0), some (vI (nI l))]) (st' := [vR 800, vR 800]) rfl ?_
            refine g_getI rfl (g_A (a := 800) (kd := 0) (n := 12) rfl (by decide)) (show _ = nI (spK T n q.1) from h4.2.1) ?_
            refine g_pure 2 (i' := 46) (lv' := [some (vR 800), some (vI 0), some (vI (nI l))]) (st' := [vI (nI (spK T n q.1) + 1), vR 800]) rfl ?_
            refine g_putI rfl (g_A (a := 800) (kd := 0) (n := 12) rfl (by decide)) ?_
            rw [show nI (spK T n q.1) + 1 = nI (spK T n q.1 + 1) from nI_add _ 1]
            refine g_pure 2 (i' := 16) (lv' := [some (vR 800), some (vI 0), some (vI (nI l + 1))]) (st' := []) rfl ?_
            rw [show nI l + 1 = nI (l + 1) from nI_add l 1]
            exact ih j2 (by omega) (l + 1) (nxK T n q.1) q.2.1 q.2.2 _ (by omega) (by omega) (by omega) go (hC3.mf (MF.rf _).m9) (hL3.mf (MF.rf _).m9) ⟨hX3.mf (MF.rf _).m9, hx.2.1, nxK T n q.1, by rw [mu_self, hG], hx.2.1, rfl⟩ (hF3.mf (MF.rf _).m9)
          · have hw : ¬ isW T n q.1 [59] := fun g => (dcN_n.mp hw) (hc.mpr g)
            rw [sel_f hw]
            refine g_pure 1 (i' := 40) (lv' := [some (vR 800), some (vI 0), some (vI (nI l))]) (st' := [vI (-1)]) rfl ?_
            exact g_iret rfl ⟨s3, ⟨hF3, h4.2.2⟩, rfl⟩
    · rw [sel_f hj] at hr
      have hj0 : j = 0 := by omega
      subst hj0
      obtain ⟨s2, h3, rfl⟩ := hr
      exact gK_v (fl s2 _ rfl h3.1 h3.2)
/-- what reading a text of the law keeps, in the reference -/
def UWm (sg s : Mg) : Prop := (∀ c, c ≠ 800 → c ≠ 801 → s c = sg c) ∧ (∀ k, k ≠ 0 → k ≠ 8 → k ≠ 9 → k ≠ 10 → k ≠ 11 → k ≠ 12 → k ≠ 15 → s 800 k = sg 800 k) ∧ s 800 0 = 0 ∧ s 800 8 = 0 ∧ ∀ i, i < 1558 → s 801 i = sg 801 i
def rdW (R : Nat ⊕ (Nat × LE × LLn)) (sg : Mg) (p : Nat → Nat) (r : am_R) : Prop := match R with
  | .inl f => ∃ s, (UWm sg s ∧ s 800 11 = nI f) ∧ r = gRv p s (-1)
  | .inr q => ∃ s, (UWm sg s ∧ LCm q.2.1 s ∧ LLm q.2.2 s) ∧ r = gRv p s (nI q.2.2.length)
theorem s_186l {X : Nat × (Nat → Int32)} {d : Nat} {p : Nat → Nat} {sg : Mg} {T : Nat → Int32} {tl : Nat} (ht : tl ≤ 400) (h8 : sg 800 8 = nI tl) (h2 : ∀ i, i < tl → sg 805 i = T i) : gF X (d + 29) 186 [vR 800, vI 0] p sg (rdW (prLaw T tl) sg p) := by
  refine g_in (cd := k_186) (nL := 3) (rc := 13) rfl (g_A (a := 800) (kd := 0) (n := 12) rfl (by decide)) (g_c1 rfl) ?_
  show gW X (d + 28) k_186 0 [some (vR 800), some (vI 0), none] [] p sg _
  refine g_pure 1 (i' := 1) (lv' := [some (vR 800), some (vI 0), none]) (st' := [vR 800]) rfl ?_
  refine g_cV0E (p' := p) rfl (args := [vR 800]) (rest := []) rfl rfl rfl (s_187u (d := d + 27) ht h8) (fun s1 h1 => ?_)
  refine g_pure 2 (i' := 4) (lv' := [some (vR 800), some (vI 0), none]) (st' := [vI 0, vR 800]) rfl ?_
  refine g_putI rfl (g_A (a := 800) (kd := 0) (n := 12) rfl (by decide)) ?_
  have k1 : ∀ c, c ≠ 800 → mu s1 800 15 0 c = sg c := fun c hc => by rw [mu_ne hc]; exact h1.1 c hc
  have k2 : ∀ k, k ≠ 0 → k ≠ 8 → k ≠ 9 → k ≠ 10 → k ≠ 15 → mu s1 800 15 0 800 k = sg 800 k := fun k k0 k8 k9 k10 k15 => by rw [mu_idx k15]; exact h1.2.1 k k0 k8 k9 k10
  have k3 : mu s1 800 15 0 800 0 = 0 := by rw [mu_idx (by decide)]; exact h1.2.2.1
  have k4 : mu s1 800 15 0 800 8 = 0 := by rw [mu_idx (by decide)]; exact h1.2.2.2.1
  have k5 : mu s1 800 15 0 800 9 = nI 0 := by rw [mu_idx (by decide)]; exact h1.2.2.2.2.1
  have k6 : mu s1 800 15 0 800 10 = nI tl := by rw [mu_idx (by decide)]; exact h1.2.2.2.2.2
  have k7 : mu s1 800 15 0 800 15 = nI 0 := mu_self
  generalize mu s1 800 15 0 = s2 at k1 k2 k3 k4 k5 k6 k7
  have hX : MX T tl s2 := ⟨ht, k6, fun i hi => by rw [k1 805 (by decide)]; exact h2 i hi⟩
  refine g_pure 1 (i' := 6) (lv' := [some (vR 800), some (vI 0), none]) (st' := [vR 800]) rfl ?_
  refine g_cV0E (p' := p) rfl (args := [vR 800]) (rest := []) rfl rfl rfl (s_188 (d := d + 26) hX k5 (Nat.zero_le _)) (fun s3 h3 => ?_)
  have hX3 := hX.mf h3.1
  have hb := spK_ok (T := T) (n := tl) (k := 0) (Nat.zero_le _)
  have hC3 : LCm [] s3 := ⟨(h3.1.2 15 (by decide) (by decide)).trans k7, fun i hi => absurd hi (Nat.not_lt_zero _)⟩
  have hL3 : LLm [] s3 := fun i hi => absurd hi (Nat.not_lt_zero _)
  have hU : ∀ s4, FW s3 s4 → UWm sg s4 := fun s4 h4 => by
    refine ⟨fun c c1 c2 => ?_, fun k k0 k8 k9 k10 k11 k12 k15 => ?_, ?_, ?_, fun i hi => ?_⟩
    · rw [h4.1 c c1 c2, h3.1.1 c c1]; exact k1 c c1
    · rw [h4.2.1 k k9 k11 k12 k15, h3.1.2 k k9 k11]; exact k2 k k0 k8 k9 k10 k15
    · rw [h4.2.1 0 (by decide) (by decide) (by decide) (by decide), h3.1.2 0 (by decide) (by decide)]; exact k3
    · rw [h4.2.1 8 (by decide) (by decide) (by decide) (by decide), h3.1.2 8 (by decide) (by decide)]; exact k4
    · rw [h4.2.2 i hi, h3.1.1 801 (by decide), k1 801 (by decide)]
  refine g_pure 1 (i' := 8) (lv' := [some (vR 800), some (vI 0), none]) (st' := [vR 800]) rfl ?_
  refine g_getI rfl (g_A (a := 800) (kd := 0) (n := 12) rfl (by decide)) (show _ = nI (spK T tl 0) from h3.2.1) ?_
  refine g_pure 1 (i' := 10) (lv' := [some (vR 800), some (vI 0), none]) (st' := [vR 800, vI (nI (spK T tl 0))]) rfl ?_
  refine g_getI rfl (g_A (a := 800) (kd := 0) (n := 12) rfl (by decide)) (show _ = nI tl from hX3.2.1) ?_
  unfold prLaw
  refine g_if2 (i' := 14) (P := ¬ spK T tl 0 = tl) rfl rfl (not_congr (nI_eq (by omega) (by omega))) (fun hne => ?_) (fun he2 => ?_)
  · rw [sel_f (by omega)]
    refine g_pure 2 (i' := 16) (lv' := [some (vR 800), some (vI 0), some (vI (nI 0))]) (st' := []) rfl ?_
    obtain ⟨r, g1, g2⟩ := l_186l (X := X) (d := d) (p := p) (T := T) (n := tl) 12 0 0 [] [] s3 rfl rfl (Nat.zero_le _) rfl hC3 hL3 ⟨hX3, Nat.zero_le _, spK T tl 0, h3.2.1, hb.2.1, spK_sp (Nat.zero_le _)⟩ (FW.rf s3)
    refine ⟨r, g1, ?_⟩
    have g2 : raW (raL T tl 12 0 [] []) s3 p r := g2
    cases hR : raL T tl 12 0 [] [] with
    | inl f =>
      rw [hR] at g2
      obtain ⟨s4, a1, a2⟩ := g2
      exact ⟨s4, ⟨hU s4 a1.1, a1.2⟩, a2⟩
    | inr q =>
      rw [hR] at g2
      obtain ⟨s4, a1, a2⟩ := g2
      exact ⟨s4, ⟨hU s4 a1.1, a1.2⟩, a2⟩
  · rw [sel_t (by omega)]
    refine g_pure 1 (i' := 13) (lv' := [some (vR 800), some (vI 0), none]) (st' := [vI 0]) rfl ?_
    exact g_iret rfl ⟨s3, ⟨hU s3 (FW.rf s3), hC3, hL3⟩, rfl⟩
