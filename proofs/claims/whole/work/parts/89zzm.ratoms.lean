/-! LAW: conditions, in the reference (made by wip/whole/gen89zzm.py) -/
theorem MK.m12 {T : Nat → Int32} {n k : Nat} {s : Mg} {x : Int32} (h : MK T n k s) : MK T n k (mu s 800 12 x) := by
  obtain ⟨h1, h2, c, h3, h4⟩ := h
  exact ⟨⟨h1.1, (mu_idx (by decide)).trans h1.2.1, fun i hi => by rw [mu_ne (by decide)]; exact h1.2.2 i hi⟩, h2, c, (mu_idx (by decide)).trans h3, h4⟩
theorem LCm.m12 {E : LE} {s : Mg} {x : Int32} (h : LCm E s) : LCm E (mu s 800 12 x) := ⟨(mu_idx (by decide)).trans h.1, fun i hi => by rw [mu_ne (by decide)]; exact h.2 i hi⟩
theorem FQ.m12 {sg s : Mg} {x : Int32} (h : FQ sg s) : FQ sg (mu s 800 12 x) := ⟨fun c c1 c2 => (mu_ne c1).trans (h.1 c c1 c2), fun f a b c e => (mu_idx c).trans (h.2.1 f a b c e), fun i hi => by rw [mu_ne (by decide)]; exact h.2.2 i hi⟩
theorem nW_g {T : Nat → Int32} {n k : Nat} {c : Int32} (hc : isL c = false) (h : isG T n k c) {w : List Int32} (hw : wL w) : ¬ isW T n k w := fun g => by
  have h0 : 0 < w.length := Nat.pos_of_ne_zero (fun e => hw.1 (List.eq_nil_of_length_eq_zero e))
  have h1 := g.2 0 h0
  rw [Nat.add_zero, h.2] at h1
  rw [h1, hw.2] at hc
  cases hc
section
variable {X : Nat × (Nat → Int32)} {d : Nat} {p : Nat → Nat} {T : Nat → Int32} {n k : Nat} {E : LE} {sg0 s : Mg}
/-- two sums compared -/
theorem c_222 (hM : MK T n k s) (hC : LCm E s) (hF : FQd sg0 s) (hE : E.length + 1 ≤ k) {z1 : Option AV} : gW X (d + 5) k_222 84 [some (vR 800), z1, none] [] p s (lnQ (pCmp T n k E) T n sg0 p) := by
  have hk := hM.2.1
  have hn := hM.1.1
  have e0 : pCmp T n k E = bnL (pSum T n k E) (fun k1 E1 => sel (isG T n k1 60 ∨ isG T n k1 62) (bnL (pSum T n (nxK T n k1) E1) (fun k2 E2 => .inr (k2, E2 ++ [(sel (isG T n k1 60) 12 13, 0)]))) (.inl (spK T n k1))) := rfl
  refine g_pure 1 (i' := 85) (lv' := [some (vR 800), z1, none]) (st' := [vR 800]) rfl ?_
  refine lnQ_call rfl (args := [vR 800]) (rest := []) rfl rfl (Nat.zero_le _) hF (s_225 (d := d) hM hC hE) (fun e s2 he hF2 h11 => ?_) (fun q s2 hq hF2 hM2 hC2 => ?_)
  · refine g_if1 (i' := 89) (P := False) rfl rfl cd_ne0 False.elim (fun _ => ?_)
    refine g_pure 1 (i' := 88) (lv' := [some (vR 800), z1, none]) (st' := [vI 0]) rfl ?_
    rw [e0, bnL_l he]
    exact g_bret rfl g_nar0 ⟨s2, ⟨hF2, h11⟩, rfl⟩
  · refine g_if1 (i' := 89) (P := True) rfl rfl cd_ne1 (fun _ => ?_) (fun h => absurd trivial h)
    have g2 := pSum_g hk E q.1 q.2 hq
    rw [e0, bnL_r (k := q.1) (E := q.2) hq]
    -- the second sum
    have fin : ∀ (m v : Nat) (s3 : Mg), (m = 1 ∧ v = 12 ∨ m = 0 ∧ v = 13) → q.1 < nxK T n q.1 → nxK T n q.1 ≤ n → MK T n (nxK T n q.1) s3 → LCm q.2 s3 → FQd sg0 s3 → gW X (d + 5) k_222 99 [some (vR 800), z1, some (vI (nI m))] [] p s3 (lnQ (bnL (pSum T n (nxK T n q.1) q.2) (fun k2 E2 => .inr (k2, E2 ++ [(v, 0)]))) T n sg0 p) := fun m v s3 hm hx1 hx2 hM3 hC3 hF3 => by
      refine g_pure 1 (i' := 100) (lv' := [some (vR 800), z1, some (vI (nI m))]) (st' := [vR 800]) rfl ?_
      refine lnQ_call rfl (args := [vR 800]) (rest := []) rfl rfl (Nat.zero_le _) hF3 (s_225 (d := d) hM3 hC3 (by omega)) (fun e s4 he hF4 h11 => ?_) (fun q2 s4 hq2 hF4 hM4 hC4 => ?_)
      · refine g_if1 (i' := 104) (P := False) rfl rfl cd_ne0 False.elim (fun _ => ?_)
        refine g_pure 1 (i' := 103) (lv' := [some (vR 800), z1, some (vI (nI m))]) (st' := [vI 0]) rfl ?_
        rw [bnL_l he]
        exact g_bret rfl g_nar0 ⟨s4, ⟨hF4, h11⟩, rfl⟩
      · refine g_if1 (i' := 104) (P := True) rfl rfl cd_ne1 (fun _ => ?_) (fun h => absurd trivial h)
        have g3 := pSum_g hx2 q.2 q2.1 q2.2 hq2
        rw [bnL_r (k := q2.1) (E := q2.2) hq2]
        have go : gW X (d + 5) k_222 110 [some (vR 800), z1, some (vI (nI m))] [vI (nI v), vR 800] p s4 (lnQ (.inr (q2.1, q2.2 ++ [(v, 0)])) T n sg0 p) := by
          refine g_pure 1 (i' := 111) (lv' := [some (vR 800), z1, some (vI (nI m))]) (st' := [vI (nI 0), vI (nI v), vR 800]) rfl ?_
          refine g_cV0E (p' := p) rfl (args := [vR 800, vI (nI v), vI (nI 0)]) (rest := []) rfl rfl rfl (s_224 (d := d + 4) hC4 (by omega)) (fun s5 h5 => ?_)
          refine g_pure 1 (i' := 113) (lv' := [some (vR 800), z1, some (vI (nI m))]) (st' := [vI 1]) rfl ?_
          exact g_bret rfl g_nar1 ⟨s5, ⟨hF4.em h5, hM4.em h5, h5.lc (q := (v, 0)) hC4⟩, rfl⟩
        refine g_pure 2 (i' := 106) (lv' := [some (vR 800), z1, some (vI (nI m))]) (st' := [vI (nI m), vR 800]) rfl ?_
        rcases hm with ⟨rfl, rfl⟩ | ⟨rfl, rfl⟩
        · refine g_if1 (i' := 109) (P := False) rfl rfl cd_eq1 False.elim (fun _ => ?_)
          refine g_pure 2 (i' := 110) (lv' := [some (vR 800), z1, some (vI (nI 1))]) (st' := [vI (nI 12), vR 800]) rfl ?_
          exact go
        · refine g_if1 (i' := 109) (P := True) rfl rfl cd_eq0 (fun _ => ?_) (fun h => absurd trivial h)
          refine g_pure 1 (i' := 110) (lv' := [some (vR 800), z1, some (vI (nI 0))]) (st' := [vI (nI 13), vR 800]) rfl ?_
          exact go
    refine g_pure 2 (i' := 91) (lv' := [some (vR 800), z1, none]) (st' := [vI 60, vR 800]) rfl ?_
    by_cases c : isG T n q.1 60
    · have g3 := nx_g g2.2.1 c
      refine g_cV1E (p' := p) rfl (args := [vR 800, vI 60]) (rest := []) rfl rfl rfl (s_223a (d := d + 2) ⟨by decide, by decide⟩ hM2 c) (fun s3 h3 => ?_)
      refine g_pure 2 (i' := 94) (lv' := [some (vR 800), z1, some (vI (nI 1))]) (st' := [vI 1]) rfl ?_
      refine g_if1 (i' := 99) (P := True) rfl rfl cd_ne1 (fun _ => ?_) (fun h => absurd trivial h)
      rw [sel_t (Or.inl c), sel_t c]
      exact fin 1 12 s3 (Or.inl ⟨rfl, rfl⟩) g3.1 g3.2.1 h3.1 (hC2.mf h3.2.1) (hF2.mf h3.2.1)
    · refine g_cV1E (p' := p) rfl (args := [vR 800, vI 60]) (rest := []) rfl rfl rfl (s_223b (d := d + 2) hM2 c) (fun s3 h3 => ?_)
      refine g_pure 2 (i' := 94) (lv' := [some (vR 800), z1, some (vI (nI 0))]) (st' := [vI 0]) rfl ?_
      refine g_if1 (i' := 99) (P := False) rfl rfl cd_ne0 False.elim (fun _ => ?_)
      refine g_pure 2 (i' := 97) (lv' := [some (vR 800), z1, some (vI (nI 0))]) (st' := [vI 62, vR 800]) rfl ?_
      by_cases c2 : isG T n q.1 62
      · have g3 := nx_g g2.2.1 c2
        refine g_cV1E (p' := p) rfl (args := [vR 800, vI 62]) (rest := []) rfl rfl rfl (s_223a (d := d + 2) ⟨by decide, by decide⟩ h3.1 c2) (fun s4 h4 => ?_)
        refine g_if1 (i' := 102) (P := False) rfl rfl cd_eq1 False.elim (fun _ => ?_)
        rw [sel_t (Or.inr c2), sel_f c]
        exact fin 0 13 s4 (Or.inr ⟨rfl, rfl⟩) g3.1 g3.2.1 h4.1 ((hC2.mf h3.2.1).mf h4.2.1) ((hF2.mf h3.2.1).mf h4.2.1)
      · refine g_cV1E (p' := p) rfl (args := [vR 800, vI 62]) (rest := []) rfl rfl rfl (s_223b (d := d + 2) h3.1 c2) (fun s4 h4 => ?_)
        refine g_if1 (i' := 102) (P := True) rfl rfl cd_eq0 (fun _ => ?_) (fun h => absurd trivial h)
        refine g_pure 1 (i' := 103) (lv' := [some (vR 800), z1, some (vI (nI 0))]) (st' := [vI 0]) rfl ?_
        rw [sel_f (fun h => h.elim c c2)]
        exact g_bret rfl g_nar0 ⟨s4, ⟨((hF2.mf h3.2.1).mf h4.2.1).1, h4.2.2⟩, rfl⟩
/-- again, a feast, or two sums -/
theorem b_222 (hM : MK T n k s) (hC : LCm E s) (hF : FQd sg0 s) (hE : E.length + 1 ≤ k) : gW X (d + 5) k_222 64 [some (vR 800), none, none] [] p s (lnQ (pBase T n k E) T n sg0 p) := by
  have hk := hM.2.1
  have hn := hM.1.1
  have fin : ∀ (m v : Nat) (s3 : Mg), (m = 1 ∧ v = 8 ∨ m = 0 ∧ v = 9) → MK T n (nxK T n k) s3 → LCm E s3 → FQd sg0 s3 → gW X (d + 5) k_222 74 [some (vR 800), some (vI (nI m)), none] [] p s3 (lnQ (.inr (nxK T n k, E ++ [(v, 0)])) T n sg0 p) := fun m v s3 hm hM3 hC3 hF3 => by
    have go : gW X (d + 5) k_222 80 [some (vR 800), some (vI (nI m)), none] [vI (nI v), vR 800] p s3 (lnQ (.inr (nxK T n k, E ++ [(v, 0)])) T n sg0 p) := by
      refine g_pure 1 (i' := 81) (lv' := [some (vR 800), some (vI (nI m)), none]) (st' := [vI (nI 0), vI (nI v), vR 800]) rfl ?_
      refine g_cV0E (p' := p) rfl (args := [vR 800, vI (nI v), vI (nI 0)]) (rest := []) rfl rfl rfl (s_224 (d := d + 4) hC3 (by omega)) (fun s5 h5 => ?_)
      refine g_pure 1 (i' := 83) (lv' := [some (vR 800), some (vI (nI m)), none]) (st' := [vI 1]) rfl ?_
      exact g_bret rfl g_nar1 ⟨s5, ⟨hF3.em h5, hM3.em h5, h5.lc (q := (v, 0)) hC3⟩, rfl⟩
    refine g_pure 2 (i' := 76) (lv' := [some (vR 800), some (vI (nI m)), none]) (st' := [vI (nI m), vR 800]) rfl ?_
    rcases hm with ⟨rfl, rfl⟩ | ⟨rfl, rfl⟩
    · refine g_if1 (i' := 79) (P := False) rfl rfl cd_eq1 False.elim (fun _ => ?_)
      refine g_pure 2 (i' := 80) (lv' := [some (vR 800), some (vI (nI 1)), none]) (st' := [vI (nI 8), vR 800]) rfl ?_
      exact go
    · refine g_if1 (i' := 79) (P := True) rfl rfl cd_eq0 (fun _ => ?_) (fun h => absurd trivial h)
      refine g_pure 1 (i' := 80) (lv' := [some (vR 800), some (vI (nI 0)), none]) (st' := [vI (nI 9), vR 800]) rfl ?_
      exact go
  unfold pBase
  refine g_pure 2 (i' := 66) (lv' := [some (vR 800), none, none]) (st' := [vS 68, vR 800]) rfl ?_
  by_cases c : isW T n k (am_SL 23)
  · refine g_cV1E (p' := p) rfl (args := [vR 800, vS 68]) (rest := []) rfl rfl rfl (s_214a (d := d + 1) (by decide) (wL_of (by decide)) hM (show isW T n k (am_SL 68) from c)) (fun s3 h3 => ?_)
    refine g_pure 2 (i' := 69) (lv' := [some (vR 800), some (vI (nI 1)), none]) (st' := [vI 1]) rfl ?_
    refine g_if1 (i' := 74) (P := True) rfl rfl cd_ne1 (fun _ => ?_) (fun h => absurd trivial h)
    rw [sel_t c]
    exact fin 1 8 s3 (Or.inl ⟨rfl, rfl⟩) h3.1 (hC.mf h3.2.1) (hF.mf h3.2.1)
  · refine g_cV1E (p' := p) rfl (args := [vR 800, vS 68]) (rest := []) rfl rfl rfl (s_214b (d := d + 1) (by decide) (wL_of (by decide)) hM (show ¬ isW T n k (am_SL 68) from c)) (fun s3 h3 => ?_)
    refine g_pure 2 (i' := 69) (lv' := [some (vR 800), some (vI (nI 0)), none]) (st' := [vI 0]) rfl ?_
    refine g_if1 (i' := 74) (P := False) rfl rfl cd_ne0 False.elim (fun _ => ?_)
    refine g_pure 2 (i' := 72) (lv' := [some (vR 800), some (vI (nI 0)), none]) (st' := [vS 62, vR 800]) rfl ?_
    rw [sel_f c]
    have hC3 := hC.mf h3.2.1
    have hF3 := hF.mf h3.2.1
    by_cases c2 : isW T n k (am_SL 24)
    · refine g_cV1E (p' := p) rfl (args := [vR 800, vS 62]) (rest := []) rfl rfl rfl (s_214a (d := d + 1) (by decide) (wL_of (by decide)) h3.1 (show isW T n k (am_SL 62) from c2)) (fun s4 h4 => ?_)
      refine g_if1 (i' := 84) (P := False) rfl rfl cd_eq1 False.elim (fun _ => ?_)
      rw [sel_t c2]
      exact fin 0 9 s4 (Or.inr ⟨rfl, rfl⟩) h4.1 (hC3.mf h4.2.1) (hF3.mf h4.2.1)
    · refine g_cV1E (p' := p) rfl (args := [vR 800, vS 62]) (rest := []) rfl rfl rfl (s_214b (d := d + 1) (by decide) (wL_of (by decide)) h3.1 (show ¬ isW T n k (am_SL 62) from c2)) (fun s4 h4 => ?_)
      refine g_if1 (i' := 84) (P := True) rfl rfl cd_eq0 (fun _ => ?_) (fun h => absurd trivial h)
      rw [sel_f c2]
      exact c_222 (d := d) h4.1 (hC3.mf h4.2.1) (hF3.mf h4.2.1) hE
/-- how an atom begins -/
theorem a_222 {Q : am_R → Prop} (hM : MK T n k sg0) (h40 : isG T n k 40 → ∀ s1, MK T n (nxK T n k) s1 → NR T n k sg0 s1 → gW X (d + 5) k_222 4 [some (vR 800), none, none] [] p s1 Q) (hN : ¬ isG T n k 40 → isW T n k (am_SL 21) → ∀ s1, MK T n (nxK T n k) s1 → NR T n k sg0 s1 → gW X (d + 5) k_222 35 [some (vR 800), none, none] [] p s1 Q) (hB : ¬ isG T n k 40 → ¬ isW T n k (am_SL 21) → ∀ s1, MK T n k s1 → MF sg0 s1 → gW X (d + 5) k_222 64 [some (vR 800), none, none] [] p s1 Q) : gW X (d + 5) k_222 0 [some (vR 800), none, none] [] p sg0 Q := by
  refine g_pure 2 (i' := 2) (lv' := [some (vR 800), none, none]) (st' := [vI 40, vR 800]) rfl ?_
  by_cases c : isG T n k 40
  · refine g_cV1E (p' := p) rfl (args := [vR 800, vI 40]) (rest := []) rfl rfl rfl (s_223a (d := d + 2) ⟨by decide, by decide⟩ hM c) (fun s3 h3 => ?_)
    refine g_if1 (i' := 31) (P := False) rfl rfl cd_eq1 False.elim (fun _ => ?_)
    exact h40 c s3 h3.1 h3.2
  · refine g_cV1E (p' := p) rfl (args := [vR 800, vI 40]) (rest := []) rfl rfl rfl (s_223b (d := d + 2) hM c) (fun s3 h3 => ?_)
    refine g_if1 (i' := 31) (P := True) rfl rfl cd_eq0 (fun _ => ?_) (fun h => absurd trivial h)
    refine g_pure 2 (i' := 33) (lv' := [some (vR 800), none, none]) (st' := [vS 67, vR 800]) rfl ?_
    by_cases c2 : isW T n k (am_SL 21)
    · refine g_cV1E (p' := p) rfl (args := [vR 800, vS 67]) (rest := []) rfl rfl rfl (s_214a (d := d + 1) (by decide) (wL_of (by decide)) h3.1 (show isW T n k (am_SL 67) from c2)) (fun s4 h4 => ?_)
      refine g_if1 (i' := 64) (P := False) rfl rfl cd_eq1 False.elim (fun _ => ?_)
      exact hN c c2 s4 h4.1 (h3.2.tr h4.2)
    · refine g_cV1E (p' := p) rfl (args := [vR 800, vS 67]) (rest := []) rfl rfl rfl (s_214b (d := d + 1) (by decide) (wL_of (by decide)) h3.1 (show ¬ isW T n k (am_SL 67) from c2)) (fun s4 h4 => ?_)
      refine g_if1 (i' := 64) (P := True) rfl rfl cd_eq0 (fun _ => ?_) (fun h => absurd trivial h)
      exact hB c c2 s4 h4.1 (h3.2.1.tr h4.2.1)
end
