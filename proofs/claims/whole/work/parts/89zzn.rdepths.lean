/-! LAW: atoms at every depth, in the reference (made by wip/whole/gen89zzn.py) -/
theorem dk_4 {X : Nat × (Nat → Int32)} {d : Nat} {p : Nat → Nat} {s : Mg} {g : Nat} {Q : am_R → Prop} (hg : g ≤ 6) (h12 : s 800 12 = nI g) (f : g = 6 → Q (gRv p s 0)) (t : ¬ g = 6 → gW X d k_222 10 [some (vR 800), none, none] [] p s Q) : gW X d k_222 4 [some (vR 800), none, none] [] p s Q := by
  refine g_pure 1 (i' := 5) (lv' := [some (vR 800), none, none]) (st' := [vR 800]) rfl ?_
  refine g_getI rfl (g_A (a := 800) (kd := 0) (n := 12) rfl (by decide)) (show _ = nI g from h12) ?_
  refine g_pure 1 (i' := 7) (lv' := [some (vR 800), none, none]) (st' := [vI (nI 6), vI (nI g)]) rfl ?_
  refine g_if2 (i' := 10) (P := ¬ g = 6) rfl rfl (g_neN rfl rfl (by omega) (by decide)) t (fun h => ?_)
  refine g_pure 1 (i' := 9) (lv' := [some (vR 800), none, none]) (st' := [vI 0]) rfl ?_
  exact g_bret rfl g_nar0 (f (Classical.not_not.mp h))

theorem dk_35 {X : Nat × (Nat → Int32)} {d : Nat} {p : Nat → Nat} {s : Mg} {g : Nat} {Q : am_R → Prop} (hg : g ≤ 6) (h12 : s 800 12 = nI g) (f : g = 6 → Q (gRv p s 0)) (t : ¬ g = 6 → gW X d k_222 41 [some (vR 800), none, none] [] p s Q) : gW X d k_222 35 [some (vR 800), none, none] [] p s Q := by
  refine g_pure 1 (i' := 36) (lv' := [some (vR 800), none, none]) (st' := [vR 800]) rfl ?_
  refine g_getI rfl (g_A (a := 800) (kd := 0) (n := 12) rfl (by decide)) (show _ = nI g from h12) ?_
  refine g_pure 1 (i' := 38) (lv' := [some (vR 800), none, none]) (st' := [vI (nI 6), vI (nI g)]) rfl ?_
  refine g_if2 (i' := 41) (P := ¬ g = 6) rfl rfl (g_neN rfl rfl (by omega) (by decide)) t (fun h => ?_)
  refine g_pure 1 (i' := 40) (lv' := [some (vR 800), none, none]) (st' := [vI 0]) rfl ?_
  exact g_bret rfl g_nar0 (f (Classical.not_not.mp h))

theorem du_10 {X : Nat × (Nat → Int32)} {d : Nat} {p : Nat → Nat} {s : Mg} {g : Nat} {Q : am_R → Prop} (hg : g ≤ 6) (h12 : s 800 12 = nI g) (t : gW X d k_222 16 [some (vR 800), none, none] [] p (mu s 800 12 (nI (g + 1))) Q) : gW X d k_222 10 [some (vR 800), none, none] [] p s Q := by
  refine g_pure 2 (i' := 12) (lv' := [some (vR 800), none, none]) (st' := [vR 800, vR 800]) rfl ?_
  refine g_getI rfl (g_A (a := 800) (kd := 0) (n := 12) rfl (by decide)) (show _ = nI g from h12) ?_
  refine g_pure 2 (i' := 15) (lv' := [some (vR 800), none, none]) (st' := [vI (nI g + 1), vR 800]) rfl ?_
  refine g_putI rfl (g_A (a := 800) (kd := 0) (n := 12) rfl (by decide)) ?_
  rw [show nI g + 1 = nI (g + 1) from nI_add g 1]
  exact t

theorem du_41 {X : Nat × (Nat → Int32)} {d : Nat} {p : Nat → Nat} {s : Mg} {g : Nat} {Q : am_R → Prop} (hg : g ≤ 6) (h12 : s 800 12 = nI g) (t : gW X d k_222 47 [some (vR 800), none, none] [] p (mu s 800 12 (nI (g + 1))) Q) : gW X d k_222 41 [some (vR 800), none, none] [] p s Q := by
  refine g_pure 2 (i' := 43) (lv' := [some (vR 800), none, none]) (st' := [vR 800, vR 800]) rfl ?_
  refine g_getI rfl (g_A (a := 800) (kd := 0) (n := 12) rfl (by decide)) (show _ = nI g from h12) ?_
  refine g_pure 2 (i' := 46) (lv' := [some (vR 800), none, none]) (st' := [vI (nI g + 1), vR 800]) rfl ?_
  refine g_putI rfl (g_A (a := 800) (kd := 0) (n := 12) rfl (by decide)) ?_
  rw [show nI g + 1 = nI (g + 1) from nI_add g 1]
  exact t

theorem dd_21 {X : Nat × (Nat → Int32)} {d : Nat} {p : Nat → Nat} {s : Mg} {g : Nat} {Q : am_R → Prop} (hg : g ≤ 6) (h12 : s 800 12 = nI (g + 1)) (t : gW X d k_222 27 [some (vR 800), none, none] [] p (mu s 800 12 (nI g)) Q) : gW X d k_222 21 [some (vR 800), none, none] [] p s Q := by
  refine g_pure 2 (i' := 23) (lv' := [some (vR 800), none, none]) (st' := [vR 800, vR 800]) rfl ?_
  refine g_getI rfl (g_A (a := 800) (kd := 0) (n := 12) rfl (by decide)) (show _ = nI (g + 1) from h12) ?_
  refine g_pure 2 (i' := 26) (lv' := [some (vR 800), none, none]) (st' := [vI (nI (g + 1) - 1), vR 800]) rfl ?_
  refine g_putI rfl (g_A (a := 800) (kd := 0) (n := 12) rfl (by decide)) ?_
  rw [show nI (g + 1) - 1 = nI g from (g_sub (rfl : nI (g + 1) = nI (g + 1)) (show (1 : Int32) = nI 1 from rfl) (by omega)).trans (congrArg nI (by omega))]
  exact t

theorem dd_52 {X : Nat × (Nat → Int32)} {d : Nat} {p : Nat → Nat} {s : Mg} {g : Nat} {Q : am_R → Prop} (hg : g ≤ 6) (h12 : s 800 12 = nI (g + 1)) (t : gW X d k_222 58 [some (vR 800), none, none] [] p (mu s 800 12 (nI g)) Q) : gW X d k_222 52 [some (vR 800), none, none] [] p s Q := by
  refine g_pure 2 (i' := 54) (lv' := [some (vR 800), none, none]) (st' := [vR 800, vR 800]) rfl ?_
  refine g_getI rfl (g_A (a := 800) (kd := 0) (n := 12) rfl (by decide)) (show _ = nI (g + 1) from h12) ?_
  refine g_pure 2 (i' := 57) (lv' := [some (vR 800), none, none]) (st' := [vI (nI (g + 1) - 1), vR 800]) rfl ?_
  refine g_putI rfl (g_A (a := 800) (kd := 0) (n := 12) rfl (by decide)) ?_
  rw [show nI (g + 1) - 1 = nI g from (g_sub (rfl : nI (g + 1) = nI (g + 1)) (show (1 : Int32) = nI 1 from rfl) (by omega)).trans (congrArg nI (by omega))]
  exact t

theorem at_222 {X : Nat × (Nat → Int32)} {p : Nat → Nat} {T : Nat → Int32} {n : Nat} : ∀ (r D : Nat), r ≤ 6 → 6 + 3 * r ≤ D → AtM X p T n D (6 - r) (pAtm T n r)
  | 0, D, _, hD => by
    intro sg k E hM hC hE h12
    obtain ⟨e, rfl⟩ : ∃ e, D = e + 6 := ⟨D - 6, by omega⟩
    refine g_in (cd := k_222) (nL := 3) (rc := 13) rfl (g_A (a := 800) (kd := 0) (n := 12) rfl (by decide)) (g_c1 rfl) ?_
    show gW X (e + 5) k_222 0 [some (vR 800), none, none] [] p sg _
    refine a_222 (d := e) hM (fun c s1 h1 h2 => ?_) (fun c c2 s1 h1 h2 => ?_) (fun c c2 s1 h1 h2 => ?_)
    · refine dk_4 (g := 6) (Nat.le_refl _) ((h2.1.2 12 (by decide) (by decide)).trans h12) (fun _ => ?_) (fun h => absurd rfl h)
      rw [show pAtm T n 0 k E = .inl (spK T n k) from sel_t (Or.inr c)]
      exact ⟨s1, ⟨(FQd.of h2.1).1, h2.2⟩, rfl⟩
    · refine dk_35 (g := 6) (Nat.le_refl _) ((h2.1.2 12 (by decide) (by decide)).trans h12) (fun _ => ?_) (fun h => absurd rfl h)
      rw [show pAtm T n 0 k E = .inl (spK T n k) from sel_t (Or.inl c2)]
      exact ⟨s1, ⟨(FQd.of h2.1).1, h2.2⟩, rfl⟩
    · rw [show pAtm T n 0 k E = pBase T n k E from sel_f (fun h => h.elim c2 c)]
      exact b_222 (d := e) h1 (hC.mf h2) (FQd.of h2) hE
  | r + 1, D, hr, hD => by
    intro sg k E hM hC hE h12
    obtain ⟨e, rfl⟩ : ∃ e, D = e + 8 := ⟨D - 8, by omega⟩
    have hk := hM.2.1
    have hn := hM.1.1
    have ih5 := at_222 (X := X) (p := p) (T := T) (n := n) r (e + 5) (by omega) (by omega)
    have ih7 := at_222 (X := X) (p := p) (T := T) (n := n) r (e + 7) (by omega) (by omega)
    generalize hg : 6 - (r + 1) = g at h12
    have hg1 : 6 - r = g + 1 := by omega
    have hg6 : g ≤ 6 := by omega
    have hA : ∀ k, k ≤ n → ∀ E, LG n k E (pAtm T n r k E) := fun k hk E => pAtm_g r hk E
    rw [hg1] at ih5 ih7
    refine g_in (cd := k_222) (nL := 3) (rc := 13) rfl (g_A (a := 800) (kd := 0) (n := 12) rfl (by decide)) (g_c1 rfl) ?_
    show gW X (e + 7) k_222 0 [some (vR 800), none, none] [] p sg _
    refine a_222 (d := e + 2) hM (fun c s1 h1 h2 => ?_) (fun c c2 s1 h1 h2 => ?_) (fun c c2 s1 h1 h2 => ?_)
    · have g1 := nx_g hk c
      have hG : s1 800 12 = nI g := (h2.1.2 12 (by decide) (by decide)).trans h12
      have e0 : pAtm T n (r + 1) k E = bnL (pCnd T n (pAtm T n r) (nxK T n k) E) (fun k2 E2 => sel (isG T n k2 41) (.inr (nxK T n k2, E2)) (.inl (spK T n k2))) := (sel_f (nW_g (by decide) c (wL_of (by decide)))).trans (sel_t c)
      refine dk_4 hg6 hG (fun h => by omega) (fun _ => ?_)
      refine du_10 hg6 hG ?_
      have hM2 := h1.m12 (x := nI (g + 1))
      have hC2 := (hC.mf h2.1).m12 (x := nI (g + 1))
      have hF2 := (FQd.of h2.1).1.m12 (x := nI (g + 1))
      have hG2 : mu s1 800 12 (nI (g + 1)) 800 12 = nI (g + 1) := mu_self
      generalize mu s1 800 12 (nI (g + 1)) = s2 at hM2 hC2 hF2 hG2
      refine g_pure 1 (i' := 17) (lv' := [some (vR 800), none, none]) (st' := [vR 800]) rfl ?_
      refine lnQ_call (sg := s2) rfl (args := [vR 800]) (rest := []) rfl rfl (Nat.zero_le _) (FQd.rf s2) (s_220 (d := e) hA ih5 hG2 hM2 hC2 (by omega)) (fun f s3 he hF3 h11 => ?_) (fun q s3 hq hF3 hM3 hC3 => ?_)
      · refine g_if1 (i' := 21) (P := False) rfl rfl cd_ne0 False.elim (fun _ => ?_)
        refine g_pure 1 (i' := 20) (lv' := [some (vR 800), none, none]) (st' := [vI 0]) rfl ?_
        rw [e0, bnL_l he]
        exact g_bret rfl g_nar0 ⟨s3, ⟨hF2.tr hF3, h11⟩, rfl⟩
      · refine g_if1 (i' := 21) (P := True) rfl rfl cd_ne1 (fun _ => ?_) (fun h => absurd trivial h)
        rw [e0, bnL_r (k := q.1) (E := q.2) hq]
        refine dd_21 hg6 (hF3.2.trans hG2) ?_
        have hM4 := hM3.m12 (x := nI g)
        have hC4 := hC3.m12 (x := nI g)
        have hF4 : FQd sg (mu s3 800 12 (nI g)) := ⟨(hF2.tr hF3.1).m12, mu_self.trans h12.symm⟩
        generalize mu s3 800 12 (nI g) = s4 at hM4 hC4 hF4
        refine g_pure 2 (i' := 29) (lv' := [some (vR 800), none, none]) (st' := [vI 41, vR 800]) rfl ?_
        by_cases c4 : isG T n q.1 41
        · refine g_cV1E (p' := p) rfl (args := [vR 800, vI 41]) (rest := []) rfl rfl rfl (s_223a (d := e + 4) ⟨by decide, by decide⟩ hM4 c4) (fun s5 h5 => ?_)
          rw [sel_t c4]
          exact g_bret rfl g_nar1 ⟨s5, ⟨hF4.mf h5.2.1, h5.1, hC4.mf h5.2.1⟩, rfl⟩
        · refine g_cV1E (p' := p) rfl (args := [vR 800, vI 41]) (rest := []) rfl rfl rfl (s_223b (d := e + 4) hM4 c4) (fun s5 h5 => ?_)
          rw [sel_f c4]
          exact g_bret rfl g_nar0 ⟨s5, ⟨(hF4.mf h5.2.1).1, h5.2.2⟩, rfl⟩
    · have g1 := nx_w hk (by decide) c2
      have hG : s1 800 12 = nI g := (h2.1.2 12 (by decide) (by decide)).trans h12
      have e0 : pAtm T n (r + 1) k E = bnL (pAtm T n r (nxK T n k) E) (fun k2 E2 => .inr (k2, E2 ++ [(14, 0)])) := sel_t c2
      refine dk_35 hg6 hG (fun h => by omega) (fun _ => ?_)
      refine du_41 hg6 hG ?_
      have hM2 := h1.m12 (x := nI (g + 1))
      have hC2 := (hC.mf h2.1).m12 (x := nI (g + 1))
      have hF2 := (FQd.of h2.1).1.m12 (x := nI (g + 1))
      have hG2 : mu s1 800 12 (nI (g + 1)) 800 12 = nI (g + 1) := mu_self
      generalize mu s1 800 12 (nI (g + 1)) = s2 at hM2 hC2 hF2 hG2
      refine g_pure 1 (i' := 48) (lv' := [some (vR 800), none, none]) (st' := [vR 800]) rfl ?_
      refine lnQ_call (sg := s2) rfl (args := [vR 800]) (rest := []) rfl rfl (Nat.zero_le _) (FQd.rf s2) (ih7 s2 (nxK T n k) E hM2 hC2 (by omega) hG2) (fun f s3 he hF3 h11 => ?_) (fun q s3 hq hF3 hM3 hC3 => ?_)
      · refine g_if1 (i' := 52) (P := False) rfl rfl cd_ne0 False.elim (fun _ => ?_)
        refine g_pure 1 (i' := 51) (lv' := [some (vR 800), none, none]) (st' := [vI 0]) rfl ?_
        rw [e0, bnL_l he]
        exact g_bret rfl g_nar0 ⟨s3, ⟨hF2.tr hF3, h11⟩, rfl⟩
      · refine g_if1 (i' := 52) (P := True) rfl rfl cd_ne1 (fun _ => ?_) (fun h => absurd trivial h)
        have g2 := hA _ g1.2.1 E q.1 q.2 hq
        rw [e0, bnL_r (k := q.1) (E := q.2) hq]
        refine dd_52 hg6 (hF3.2.trans hG2) ?_
        have hM4 := hM3.m12 (x := nI g)
        have hC4 := hC3.m12 (x := nI g)
        have hF4 : FQd sg (mu s3 800 12 (nI g)) := ⟨(hF2.tr hF3.1).m12, mu_self.trans h12.symm⟩
        generalize mu s3 800 12 (nI g) = s4 at hM4 hC4 hF4
        refine g_pure 3 (i' := 61) (lv' := [some (vR 800), none, none]) (st' := [vI (nI 0), vI (nI 14), vR 800]) rfl ?_
        refine g_cV0E (p' := p) rfl (args := [vR 800, vI (nI 14), vI (nI 0)]) (rest := []) rfl rfl rfl (s_224 (d := e + 6) hC4 (by omega)) (fun s5 h5 => ?_)
        refine g_pure 1 (i' := 63) (lv' := [some (vR 800), none, none]) (st' := [vI 1]) rfl ?_
        exact g_bret rfl g_nar1 ⟨s5, ⟨hF4.em h5, hM4.em h5, h5.lc (q := (14, 0)) hC4⟩, rfl⟩
    · rw [show pAtm T n (r + 1) k E = pBase T n k E from (sel_f c2).trans (sel_f c)]
      exact b_222 (d := e + 2) h1 (hC.mf h2) (FQd.of h2) hE
