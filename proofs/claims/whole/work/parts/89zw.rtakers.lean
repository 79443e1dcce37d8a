/-! COUNTRY: the readers of numbers, in the reference (made by wip/whole/gen89zw.py) -/
/-- but for where it reads and for the world nothing changes -/
def FRm (sg s : Mg) : Prop := (∀ c, c ≠ 800 → c ≠ 801 → s c = sg c) ∧ (∀ f, f ≠ 9 → f ≠ 11 → s 800 f = sg 800 f) ∧ ∀ i, 709 ≤ i → s 801 i = sg 801 i
theorem FRm.rf (sg : Mg) : FRm sg sg := ⟨fun _ _ _ => rfl, fun _ _ _ => rfl, fun _ _ => rfl⟩
theorem FRm.m801 {sg s : Mg} {i : Nat} {x : Int32} (h : FRm sg s) (hi : i < 709) : FRm sg (mu s 801 i x) := ⟨fun c c1 c2 => (mu_ne c2).trans (h.1 c c1 c2), fun f a b => by rw [mu_ne (by decide)]; exact h.2.1 f a b, fun j hj => (mu_idx (by omega)).trans (h.2.2 j hj)⟩
theorem FRm.mf {sg s s' : Mg} (h : FRm sg s) (g : MF s s') : FRm sg s' := ⟨fun c c1 c2 => (g.1 c c1).trans (h.1 c c1 c2), fun f a b => (g.2 f a b).trans (h.2.1 f a b), fun i hi => by rw [g.1 801 (by decide)]; exact h.2.2 i hi⟩
theorem FRm.tr {sg s s' : Mg} (h : FRm sg s) (g : FRm s s') : FRm sg s' := ⟨fun c c1 c2 => (g.1 c c1 c2).trans (h.1 c c1 c2), fun f a b => (g.2.1 f a b).trans (h.2.1 f a b), fun i hi => (g.2.2 i hi).trans (h.2.2 i hi)⟩
theorem MK.eq {T : Nat → Int32} {n k : Nat} {sg s : Mg} (h : MK T n k sg) (e1 : s 800 = sg 800) (e2 : s 805 = sg 805) : MK T n k s := by
  unfold MK MX at h ⊢
  rw [e1, e2]
  exact h
theorem e_200 {X : Nat × (Nat → Int32)} {d : Nat} {p : Nat → Nat} {sg : Mg} {m : Nat} {Q : am_R → Prop} (hc : sg 801 9 = nI m) (hf : gF X (d + 4) 196 [vR 800, vI (nI 0), vI (nI m - 1)] p sg Q) (h1 : ∀ r, Q r → ∃ s v, r = gRv p s v) : gF X (d + 5) 200 [vR 800] p sg Q := by
  refine g_in (cd := k_200) (nL := 1) (rc := 13) rfl (g_A (a := 800) (kd := 0) (n := 12) rfl (by decide)) (g_c1 rfl) ?_
  show gW X (d + 4) k_200 0 [some (vR 800)] [] p sg _
  refine g_pure 3 (i' := 3) (lv' := [some (vR 800)]) (st' := [vR 800, vI (nI 0), vR 800]) rfl ?_
  refine g_cV1 rfl (args := [vR 800]) (rest := [vI (nI 0), vR 800]) rfl rfl rfl (s_199 (d := d + 3) (S := sg 801) rfl) ?_
  rw [hc]
  refine g_pure 2 (i' := 6) (lv' := [some (vR 800)]) (st' := [vI (nI m - 1), vI (nI 0), vR 800]) rfl ?_
  refine g_calV rfl (args := [vR 800, vI (nI 0), vI (nI m - 1)]) (rest := []) rfl rfl (Nat.zero_le _) hf (fun q hq => ?_)
  obtain ⟨s, v, rfl⟩ := h1 q hq
  exact gK_v (g_iret rfl hq)
theorem s_200a {X : Nat × (Nat → Int32)} {d : Nat} {p : Nat → Nat} {sg : Mg} {T : Nat → Int32} {n k m : Nat} (h : MK T n k sg) (hc : sg 801 9 = nI m) (hm : m ≤ 100000) (c : tkP T n k 4 0 m) : gF X (d + 5) 200 [vR 800] p sg (fun r => ∃ s, (MK T n (nxK T n k) s ∧ NR T n k sg s) ∧ r = gRv p s (nI (numK T n k))) := e_200 hc (s_196a h (by decide) hm rfl c) (fun r ⟨s, _, hr⟩ => ⟨s, _, hr⟩)
theorem s_200b {X : Nat × (Nat → Int32)} {d : Nat} {p : Nat → Nat} {sg : Mg} {T : Nat → Int32} {n k m : Nat} (h : MK T n k sg) (hc : sg 801 9 = nI m) (hm : m ≤ 100000) (c : ¬ tkP T n k 4 0 m) : gF X (d + 5) 200 [vR 800] p sg (fun r => ∃ s, NR T n k sg s ∧ r = gRv p s (-1)) := e_200 hc (s_196b h (by decide) hm rfl c) (fun r ⟨s, _, hr⟩ => ⟨s, _, hr⟩)
theorem e_204 {X : Nat × (Nat → Int32)} {d : Nat} {p : Nat → Nat} {sg : Mg} {m : Nat} {Q : am_R → Prop} (hc : sg 801 0 = nI m) (hf : gF X (d + 4) 196 [vR 800, vI (nI 0), vI (nI m - 1)] p sg Q) (h1 : ∀ r, Q r → ∃ s v, r = gRv p s v) : gF X (d + 5) 204 [vR 800] p sg Q := by
  refine g_in (cd := k_204) (nL := 1) (rc := 13) rfl (g_A (a := 800) (kd := 0) (n := 12) rfl (by decide)) (g_c1 rfl) ?_
  show gW X (d + 4) k_204 0 [some (vR 800)] [] p sg _
  refine g_pure 3 (i' := 3) (lv' := [some (vR 800)]) (st' := [vR 800, vI (nI 0), vR 800]) rfl ?_
  refine g_cV1 rfl (args := [vR 800]) (rest := [vI (nI 0), vR 800]) rfl rfl rfl (s_195 (d := d + 3) (S := sg 801) rfl) ?_
  rw [hc]
  refine g_pure 2 (i' := 6) (lv' := [some (vR 800)]) (st' := [vI (nI m - 1), vI (nI 0), vR 800]) rfl ?_
  refine g_calV rfl (args := [vR 800, vI (nI 0), vI (nI m - 1)]) (rest := []) rfl rfl (Nat.zero_le _) hf (fun q hq => ?_)
  obtain ⟨s, v, rfl⟩ := h1 q hq
  exact gK_v (g_iret rfl hq)
theorem s_204a {X : Nat × (Nat → Int32)} {d : Nat} {p : Nat → Nat} {sg : Mg} {T : Nat → Int32} {n k m : Nat} (h : MK T n k sg) (hc : sg 801 0 = nI m) (hm : m ≤ 100000) (c : tkP T n k 4 0 m) : gF X (d + 5) 204 [vR 800] p sg (fun r => ∃ s, (MK T n (nxK T n k) s ∧ NR T n k sg s) ∧ r = gRv p s (nI (numK T n k))) := e_204 hc (s_196a h (by decide) hm rfl c) (fun r ⟨s, _, hr⟩ => ⟨s, _, hr⟩)
theorem s_204b {X : Nat × (Nat → Int32)} {d : Nat} {p : Nat → Nat} {sg : Mg} {T : Nat → Int32} {n k m : Nat} (h : MK T n k sg) (hc : sg 801 0 = nI m) (hm : m ≤ 100000) (c : ¬ tkP T n k 4 0 m) : gF X (d + 5) 204 [vR 800] p sg (fun r => ∃ s, NR T n k sg s ∧ r = gRv p s (-1)) := e_204 hc (s_196b h (by decide) hm rfl c) (fun r ⟨s, _, hr⟩ => ⟨s, _, hr⟩)
theorem e_211 {X : Nat × (Nat → Int32)} {d : Nat} {p : Nat → Nat} {sg : Mg} {m : Nat} {Q : am_R → Prop} (hc : sg 801 1 = nI m) (hf : gF X (d + 4) 196 [vR 800, vI (nI 0), vI (nI m - 1)] p sg Q) (h1 : ∀ r, Q r → ∃ s v, r = gRv p s v) : gF X (d + 5) 211 [vR 800] p sg Q := by
  refine g_in (cd := k_211) (nL := 1) (rc := 13) rfl (g_A (a := 800) (kd := 0) (n := 12) rfl (by decide)) (g_c1 rfl) ?_
  show gW X (d + 4) k_211 0 [some (vR 800)] [] p sg _
  refine g_pure 3 (i' := 3) (lv' := [some (vR 800)]) (st' := [vR 800, vI (nI 0), vR 800]) rfl ?_
  refine g_cV1 rfl (args := [vR 800]) (rest := [vI (nI 0), vR 800]) rfl rfl rfl (s_203 (d := d + 3) (S := sg 801) rfl) ?_
  rw [hc]
  refine g_pure 2 (i' := 6) (lv' := [some (vR 800)]) (st' := [vI (nI m - 1), vI (nI 0), vR 800]) rfl ?_
  refine g_calV rfl (args := [vR 800, vI (nI 0), vI (nI m - 1)]) (rest := []) rfl rfl (Nat.zero_le _) hf (fun q hq => ?_)
  obtain ⟨s, v, rfl⟩ := h1 q hq
  exact gK_v (g_iret rfl hq)
theorem s_211a {X : Nat × (Nat → Int32)} {d : Nat} {p : Nat → Nat} {sg : Mg} {T : Nat → Int32} {n k m : Nat} (h : MK T n k sg) (hc : sg 801 1 = nI m) (hm : m ≤ 100000) (c : tkP T n k 4 0 m) : gF X (d + 5) 211 [vR 800] p sg (fun r => ∃ s, (MK T n (nxK T n k) s ∧ NR T n k sg s) ∧ r = gRv p s (nI (numK T n k))) := e_211 hc (s_196a h (by decide) hm rfl c) (fun r ⟨s, _, hr⟩ => ⟨s, _, hr⟩)
theorem s_211b {X : Nat × (Nat → Int32)} {d : Nat} {p : Nat → Nat} {sg : Mg} {T : Nat → Int32} {n k m : Nat} (h : MK T n k sg) (hc : sg 801 1 = nI m) (hm : m ≤ 100000) (c : ¬ tkP T n k 4 0 m) : gF X (d + 5) 211 [vR 800] p sg (fun r => ∃ s, NR T n k sg s ∧ r = gRv p s (-1)) := e_211 hc (s_196b h (by decide) hm rfl c) (fun r ⟨s, _, hr⟩ => ⟨s, _, hr⟩)
theorem e_212 {X : Nat × (Nat → Int32)} {d : Nat} {p : Nat → Nat} {sg : Mg} {T : Nat → Int32} {n k j lo : Nat} {hi : Int32} {Q : am_R → Prop} (hj : j < 77) (hw : wL (am_SL j)) (h : MK T n k sg) (f1 : isW T n k (am_SL j) → ∀ s, MK T n (nxK T n k) s → NR T n k sg s → gF X (d + 4) 196 [vR 800, vI (nI lo), vI hi] p s (fun r => Q r ∧ ∃ s v, r = gRv p s v)) (f2 : ¬ isW T n k (am_SL j) → ∀ s, NR T n k sg s → Q (gRv p s (-1))) : gF X (d + 5) 212 [vR 800, vS j, vI (nI lo), vI hi] p sg Q := by
  refine g_in (cd := k_212) (nL := 4) (rc := 13) rfl (g_A (a := 800) (kd := 0) (n := 12) rfl (by decide)) (g_c1 rfl) ?_
  show gW X (d + 4) k_212 0 [some (vR 800), some (vS j), some (vI (nI lo)), some (vI hi)] [] p sg _
  refine g_pure 1 (i' := 1) (lv' := [some (vR 800), some (vS j), some (vI (nI lo)), some (vI hi)]) (st' := [vR 800]) rfl ?_
  refine g_cV0E (p' := p) rfl (args := [vR 800]) (rest := []) rfl rfl rfl (s_191l (d := d + 1) h) (fun s hs => ?_)
  refine g_pure 2 (i' := 4) (lv' := [some (vR 800), some (vS j), some (vI (nI lo)), some (vI hi)]) (st' := [vS j, vR 800]) rfl ?_
  refine g_cV1 rfl (args := [vR 800, vS j]) (rest := []) rfl rfl rfl (s_193w (d := d + 3) hj hw hs.1) ?_
  refine g_if1 (i' := 11) (P := ¬ dcN (isW T n k (am_SL j)) = true) rfl rfl g_eqB (fun c => ?_) (fun c => ?_)
  · refine g_pure 1 (i' := 12) (lv' := [some (vR 800), some (vS j), some (vI (nI lo)), some (vI hi)]) (st' := [vI (-1)]) rfl ?_
    exact g_iret rfl (f2 (dcN_n.mp c) s hs.2)
  · have c := dcN_i.mp (Classical.not_not.mp c)
    refine g_pure 3 (i' := 9) (lv' := [some (vR 800), some (vS j), some (vI (nI lo)), some (vI hi)]) (st' := [vI hi, vI (nI lo), vR 800]) rfl ?_
    refine g_calV rfl (args := [vR 800, vI (nI lo), vI hi]) (rest := []) rfl rfl (Nat.zero_le _) (f1 c s (hs.1.w hw c) hs.2) (fun q hq => ?_)
    obtain ⟨hq, s2, v, rfl⟩ := hq
    refine gK_v ?_
    refine g_pure 1 (i' := 12) (lv' := [some (vR 800), some (vS j), some (vI (nI lo)), some (vI hi)]) (st' := [vI v]) rfl ?_
    exact g_iret rfl hq
theorem NR.tr {T : Nat → Int32} {n k k' : Nat} {sg s s' : Mg} (h : NR T n k sg s) (g : NR T n k' s s') : NR T n k' sg s' := ⟨h.1.tr g.1, g.2⟩
theorem s_212a {X : Nat × (Nat → Int32)} {d : Nat} {p : Nat → Nat} {sg : Mg} {T : Nat → Int32} {n k j lo m : Nat} {hi : Int32} (hj : j < 77) (hw : wL (am_SL j)) (h : MK T n k sg) (hlo : lo ≤ 9999) (hm : m ≤ 100000) (e : hi = nI m - 1) (c1 : isW T n k (am_SL j)) (c2 : tkP T n (nxK T n k) 4 lo m) : gF X (d + 5) 212 [vR 800, vS j, vI (nI lo), vI hi] p sg (fun r => ∃ s, (MK T n (nxK T n (nxK T n k)) s ∧ NR T n (nxK T n k) sg s) ∧ r = gRv p s (nI (numK T n (nxK T n k)))) :=
  e_212 hj hw h (fun _ s h1 h2 => gF_mono (s_196a h1 hlo hm e c2) (fun r ⟨s2, h3, hr⟩ => ⟨⟨s2, ⟨h3.1, h2.tr h3.2⟩, hr⟩, s2, _, hr⟩)) (fun c => absurd c1 c)
theorem s_212b {X : Nat × (Nat → Int32)} {d : Nat} {p : Nat → Nat} {sg : Mg} {T : Nat → Int32} {n k j lo m : Nat} {hi : Int32} (hj : j < 77) (hw : wL (am_SL j)) (h : MK T n k sg) (hlo : lo ≤ 9999) (hm : m ≤ 100000) (e : hi = nI m - 1) (c1 : isW T n k (am_SL j)) (c2 : ¬ tkP T n (nxK T n k) 4 lo m) : gF X (d + 5) 212 [vR 800, vS j, vI (nI lo), vI hi] p sg (fun r => ∃ s, NR T n (nxK T n k) sg s ∧ r = gRv p s (-1)) :=
  e_212 hj hw h (fun _ s h1 h2 => gF_mono (s_196b h1 hlo hm e c2) (fun r ⟨s2, h3, hr⟩ => ⟨⟨s2, h2.tr h3, hr⟩, s2, _, hr⟩)) (fun c => absurd c1 c)
theorem s_212c {X : Nat × (Nat → Int32)} {d : Nat} {p : Nat → Nat} {sg : Mg} {T : Nat → Int32} {n k j lo : Nat} {hi : Int32} (hj : j < 77) (hw : wL (am_SL j)) (h : MK T n k sg) (c1 : ¬ isW T n k (am_SL j)) : gF X (d + 5) 212 [vR 800, vS j, vI (nI lo), vI hi] p sg (fun r => ∃ s, NR T n k sg s ∧ r = gRv p s (-1)) :=
  e_212 hj hw h (fun c => absurd c c1) (fun _ s hs => ⟨s, hs, rfl⟩)
theorem wL_of {w : List Int32} (h : (!w.isEmpty && isL (w.getD 0 0)) = true) : wL w := by
  rw [Bool.and_eq_true] at h
  exact ⟨fun e => by rw [e] at h; exact absurd h.1 (by decide), h.2⟩
