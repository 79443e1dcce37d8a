/-! TEXTS: numbers and signs, in the reference (made by wip/whole/gen89zv.py) -/
/-- where the figures end -/
def dgK (T : Nat → Int32) (n k : Nat) : Nat := fnd (fun i => !isD (T i)) (n - spK T n k) (spK T n k)
theorem dgK_le {T : Nat → Int32} {n k : Nat} (hk : k ≤ n) : spK T n k ≤ dgK T n k ∧ dgK T n k ≤ n ∧ (∀ j, spK T n k ≤ j → j < dgK T n k → isD (T j) = true) := by
  have h4 := fnd_spec (fun i => !isD (T i)) (n - spK T n k) (spK T n k)
  have hb := spK_ok (T := T) hk
  have h1 : spK T n k ≤ dgK T n k := h4.1
  have h2 : dgK T n k ≤ spK T n k + (n - spK T n k) := h4.2.1
  exact ⟨h1, by omega, fun j a b => by simpa using h4.2.2.1 j a b⟩
theorem dgK_U {T : Nat → Int32} {n k : Nat} (h : isU T n k) : dgK T n k = nxK T n k := by
  unfold nxK enK dgK
  rw [if_pos h.1, if_neg (isD_L h.2), if_pos h.2]
  have c := h.1
  obtain ⟨f, hf⟩ : ∃ f, n - spK T n k = f + 1 := ⟨n - spK T n k - 1, by omega⟩
  rw [hf]
  show (if (!isD (T (spK T n k))) = true then _ else fnd _ f _) = _
  rw [h.2, if_neg (by decide), show n - (spK T n k + 1) = f by omega]
theorem dgK_n {T : Nat → Int32} {n k : Nat} (h : ¬ isU T n k) : dgK T n k = spK T n k := by
  unfold dgK
  by_cases c : spK T n k < n
  · obtain ⟨f, hf⟩ : ∃ f, n - spK T n k = f + 1 := ⟨n - spK T n k - 1, by omega⟩
    rw [hf]
    show (if (!isD (T (spK T n k))) = true then _ else _) = _
    have : isD (T (spK T n k)) = false := by simpa using fun h9 => h ⟨c, h9⟩
    rw [this, if_pos (by decide)]
  · rw [show n - spK T n k = 0 by omega]; rfl
/-- a number read: what is left -/
def NR (T : Nat → Int32) (n k : Nat) (sg s : Mg) : Prop := MF sg s ∧ s 800 11 = nI (spK T n k)
theorem s_197 {X : Nat × (Nat → Int32)} {d : Nat} {p : Nat → Nat} {sg : Mg} {T : Nat → Int32} {n k g lo m : Nat} (h : MK T n k sg) (hg : g ≤ 4) (hlo : lo ≤ 9999) (hm : m ≤ 100000) : gF X (d + 3) 197 [vR 800, vI (nI lo), vI (nI m - 1), vI (nI g)] p sg (fun r => (tkP T n k g lo m ∧ ∃ s, (MK T n (nxK T n k) s ∧ NR T n k sg s) ∧ r = gRv p s (nI (numK T n k))) ∨ (¬ tkP T n k g lo m ∧ ∃ s, NR T n k sg s ∧ r = gRv p s (-1))) := by
  obtain ⟨hX, hk, a, h9, ha, he⟩ := h
  have hn := hX.1
  have hb := spK_ok (T := T) hk
  have hd := dgK_le (T := T) hk
  have hx := nxK_ok (T := T) hk
  refine g_in (cd := k_197) (nL := 5) (rc := 13) rfl (g_A (a := 800) (kd := 0) (n := 12) rfl (by decide)) (g_c1 rfl) ?_
  show gW X (d + 2) k_197 0 [some (vR 800), some (vI (nI lo)), some (vI (nI m - 1)), some (vI (nI g)), none] [] p sg _
  refine g_pure 1 (i' := 1) (lv' := [some (vR 800), some (vI (nI lo)), some (vI (nI m - 1)), some (vI (nI g)), none]) (st' := [vR 800]) rfl ?_
  refine g_cV0E (p' := p) rfl (args := [vR 800]) (rest := []) rfl rfl rfl (s_188 (d := d) hX h9 ha) (fun s1 h1 => ?_)
  rw [he] at h1
  have hX1 := hX.mf h1.1
  refine g_pure 2 (i' := 4) (lv' := [some (vR 800), some (vI (nI lo)), some (vI (nI m - 1)), some (vI (nI g)), some (vI (nI 0))]) (st' := []) rfl ?_
  have p10 : ∀ i, i ≤ 4 → (10 : Nat) ^ i ≤ 10000 := fun i hi => Nat.pow_le_pow_right (n := 10) (j := 4) (by decide) hi
  have hval : ∀ i, spK T n k + i ≤ dgK T n k → valK T (spK T n k) i < 10 ^ i := fun i hi => valK_lt i (fun j hj => hd.2.2 _ (by omega) (by omega))
  have key : ∀ f i s, f + i = dgK T n k - spK T n k → MF s1 s → s 800 11 = nI (spK T n k) → s 800 9 = nI (spK T n k + i) → gW X (d + 2) k_197 4 [some (vR 800), some (vI (nI lo)), some (vI (nI m - 1)), some (vI (nI g)), some (vI (nI (valK T (spK T n k) (min i g))))] [] p s (fun r => (tkP T n k g lo m ∧ ∃ s, (MK T n (nxK T n k) s ∧ NR T n k sg s) ∧ r = gRv p s (nI (numK T n k))) ∨ (¬ tkP T n k g lo m ∧ ∃ s, NR T n k sg s ∧ r = gRv p s (-1))) := by
    intro f
    induction f with
    | zero | succ f ih => ?_
    all_goals
      intro i s hi hs h11 hs9
      have hv1 := hval (min i g) (by omega)
      have hv2 := p10 (min i g) (by omega)
      refine g_pure 3 (i' := 7) (lv' := [some (vR 800), some (vI (nI lo)), some (vI (nI m - 1)), some (vI (nI g)), some (vI (nI (valK T (spK T n k) (min i g))))]) (st' := [vI 57, vI 48, vR 800]) rfl ?_
      refine g_cV1 rfl (args := [vR 800, vI 48, vI 57]) (rest := []) rfl rfl rfl (s_189 (d := d + 1) (hX1.mf hs) hs9 (by omega)) ?_
      have hc : (spK T n k + i < n ∧ ¬ T (spK T n k + i) < 48 ∧ ¬ 57 < T (spK T n k + i)) ↔ (spK T n k + i < n ∧ isD (T (spK T n k + i)) = true) := by unfold isD; simp
      refine g_if1 (i' := 37) (P := ¬ dcN (spK T n k + i < n ∧ ¬ T (spK T n k + i) < 48 ∧ ¬ 57 < T (spK T n k + i)) = true) rfl rfl g_eqB (fun c => ?_) (fun c => ?_)
    · -- the end
      have e : dgK T n k = spK T n k + i := by omega
      have hR : NR T n k sg s := ⟨h1.1.tr hs, h11⟩
      have ep : i ≤ g → valK T (spK T n k) (min i g) = valK T (spK T n k) i := fun hle => by rw [Nat.min_eq_left hle]
      by_cases hu : isU T n k
      · have en := dgK_U hu
        have ei : i = nxK T n k - spK T n k := by omega
        have hlt := hx.2.2 hu.1
        have eN : i ≤ g → valK T (spK T n k) (min i g) = numK T n k := fun hle => by rw [ep hle, ei]; rfl
        refine b_197_37 (by omega) hs9 (by omega) h11 hlo hg (by omega) (by omega) (fun c => by omega) (fun c1 c2 => Or.inr ⟨fun t => by have := t.2.1; omega, s, hR, rfl⟩) (fun c1 c2 c3 => ?_) (fun c1 c2 c3 c4 => ?_) (fun c1 c2 c3 c4 => ?_)
        · rw [eN (by omega)] at c3
          exact Or.inr ⟨fun t => by have := t.2.2.1; omega, s, hR, rfl⟩
        · rw [eN (by omega)] at c3 c4 ⊢
          have hN := numK_lt hk hu (dg := g) (by omega) hg
          rw [hi_le hm (by omega)] at c4
          exact Or.inl ⟨⟨hu, by omega, by omega, c4⟩, s, ⟨⟨hX1.mf hs, hx.2.1, nxK T n k, by rw [hs9]; congr 1; omega, hx.2.1, rfl⟩, hR⟩, rfl⟩
        · rw [eN (by omega)] at c4
          have hN := numK_lt hk hu (dg := g) (by omega) hg
          rw [hi_le hm (by omega)] at c4
          exact Or.inr ⟨fun t => c4 t.2.2.2, s, hR, rfl⟩
      · have en := dgK_n hu
        exact b_197_37 (by omega) hs9 (by omega) h11 hlo hg (by omega) (by omega) (fun c => Or.inr ⟨fun t => hu t.1, s, hR, rfl⟩) (fun c1 c2 => by omega) (fun c1 c2 c3 => by omega) (fun c1 c2 c3 c4 => by omega) (fun c1 c2 c3 c4 => by omega)
    · -- it can't go on
      exfalso
      have c := hc.mp (dcN_i.mp (Classical.not_not.mp c))
      have e : dgK T n k = spK T n k + i := by omega
      have h4 := (fnd_spec (fun i => !isD (T i)) (n - spK T n k) (spK T n k)).2.2.2
      have h4 : dgK T n k < spK T n k + (n - spK T n k) → (!isD (T (dgK T n k))) = true := h4
      have := h4 (by omega)
      rw [e, c.2] at this
      cases this
    · exfalso
      have hD := hd.2.2 (spK T n k + i) (by omega) (by omega)
      exact (dcN_n.mp c) (hc.mpr ⟨by omega, hD⟩)
    · -- one more
      have hD := hd.2.2 (spK T n k + i) (by omega) (by omega)
      obtain ⟨q, hq, eq⟩ := isD_n hD
      have e805 : s 805 (spK T n k + i) = nI (48 + q) := ((hX1.mf hs).2.2 _ (by omega)).trans eq
      have nx : ∀ s2 : Mg, s2 = mu s 800 9 (nI (spK T n k + i + 1)) → gW X (d + 2) k_197 36 [some (vR 800), some (vI (nI lo)), some (vI (nI m - 1)), some (vI (nI g)), some (vI (nI (valK T (spK T n k) (min (i + 1) g))))] [] p s2 (fun r => (tkP T n k g lo m ∧ ∃ s, (MK T n (nxK T n k) s ∧ NR T n k sg s) ∧ r = gRv p s (nI (numK T n k))) ∨ (¬ tkP T n k g lo m ∧ ∃ s, NR T n k sg s ∧ r = gRv p s (-1))) := fun s2 e2 => by
        refine g_pure 1 (i' := 4) (lv' := [some (vR 800), some (vI (nI lo)), some (vI (nI m - 1)), some (vI (nI g)), some (vI (nI (valK T (spK T n k) (min (i + 1) g))))]) (st' := []) rfl ?_
        exact ih (i + 1) s2 (by omega) (by rw [e2]; exact hs.m9) (by rw [e2, mu_idx (by decide)]; exact h11) (by rw [e2, mu_self]; rfl)
      have hp3 : i < g → valK T (spK T n k) (min i g) ≤ 999 := fun hlt => by
        have h5 : (10 : Nat) ^ (min i g) ≤ 10 ^ 3 := Nat.pow_le_pow_right (by decide) (by omega)
        omega
      refine b_197_9 (x := 48 + q) (by omega) hs9 (by omega) h11 hg (by omega) e805 (by omega) (by omega) (by omega) (fun hlt => hp3 (by omega)) (fun hge s2 e2 => ?_) (fun hlt s2 e2 => ?_)
      · rw [show min i g = min (i + 1) g by omega]
        exact nx s2 e2
      · have e9 : 10 * valK T (spK T n k) (min i g) + (48 + q) - 48 = valK T (spK T n k) (min (i + 1) g) := by
          rw [show min (i + 1) g = i + 1 by omega, show min i g = i by omega]
          show _ = valK T (spK T n k) i * 10 + ((T (spK T n k + i)).toNatClampNeg - 48)
          rw [eq, nI_clamp (by omega)]
          omega
        rw [e9]
        exact nx s2 e2
  have := key (dgK T n k - spK T n k) 0 s1 (by omega) (MF.rf s1) h1.2.2 h1.2.1
  rw [Nat.zero_min] at this
  exact this
theorem s_197a {X : Nat × (Nat → Int32)} {d : Nat} {p : Nat → Nat} {sg : Mg} {T : Nat → Int32} {n k g lo m : Nat} {hi : Int32} (h : MK T n k sg) (hg : g ≤ 4) (hlo : lo ≤ 9999) (hm : m ≤ 100000) (e : hi = nI m - 1) (c : tkP T n k g lo m) : gF X (d + 3) 197 [vR 800, vI (nI lo), vI hi, vI (nI g)] p sg (fun r => ∃ s, (MK T n (nxK T n k) s ∧ NR T n k sg s) ∧ r = gRv p s (nI (numK T n k))) := by
  subst e
  exact gF_mono (s_197 h hg hlo hm) (fun r hr => hr.elim (fun g => g.2) (fun g => absurd c g.1))
theorem s_197b {X : Nat × (Nat → Int32)} {d : Nat} {p : Nat → Nat} {sg : Mg} {T : Nat → Int32} {n k g lo m : Nat} {hi : Int32} (h : MK T n k sg) (hg : g ≤ 4) (hlo : lo ≤ 9999) (hm : m ≤ 100000) (e : hi = nI m - 1) (c : ¬ tkP T n k g lo m) : gF X (d + 3) 197 [vR 800, vI (nI lo), vI hi, vI (nI g)] p sg (fun r => ∃ s, NR T n k sg s ∧ r = gRv p s (-1)) := by
  subst e
  exact gF_mono (s_197 h hg hlo hm) (fun r hr => hr.elim (fun g => absurd g.1 c) (fun g => g.2))
theorem s_196a {X : Nat × (Nat → Int32)} {d : Nat} {p : Nat → Nat} {sg : Mg} {T : Nat → Int32} {n k lo m : Nat} {hi : Int32} (h : MK T n k sg) (hlo : lo ≤ 9999) (hm : m ≤ 100000) (e : hi = nI m - 1) (c : tkP T n k 4 lo m) : gF X (d + 4) 196 [vR 800, vI (nI lo), vI hi] p sg (fun r => ∃ s, (MK T n (nxK T n k) s ∧ NR T n k sg s) ∧ r = gRv p s (nI (numK T n k))) := by
  refine g_in (cd := k_196) (nL := 3) (rc := 13) rfl (g_A (a := 800) (kd := 0) (n := 12) rfl (by decide)) (g_c1 rfl) ?_
  show gW X (d + 3) k_196 0 [some (vR 800), some (vI (nI lo)), some (vI hi)] [] p sg _
  refine g_pure 4 (i' := 4) (lv' := [some (vR 800), some (vI (nI lo)), some (vI hi)]) (st' := [vI (nI 4), vI hi, vI (nI lo), vR 800]) rfl ?_
  exact g_cV1E (p' := p) rfl (args := [vR 800, vI (nI lo), vI hi, vI (nI 4)]) (rest := []) rfl rfl rfl (s_197a (d := d) h (by decide) hlo hm e c) (fun s hs => g_iret rfl ⟨s, hs, rfl⟩)
theorem s_196b {X : Nat × (Nat → Int32)} {d : Nat} {p : Nat → Nat} {sg : Mg} {T : Nat → Int32} {n k lo m : Nat} {hi : Int32} (h : MK T n k sg) (hlo : lo ≤ 9999) (hm : m ≤ 100000) (e : hi = nI m - 1) (c : ¬ tkP T n k 4 lo m) : gF X (d + 4) 196 [vR 800, vI (nI lo), vI hi] p sg (fun r => ∃ s, NR T n k sg s ∧ r = gRv p s (-1)) := by
  refine g_in (cd := k_196) (nL := 3) (rc := 13) rfl (g_A (a := 800) (kd := 0) (n := 12) rfl (by decide)) (g_c1 rfl) ?_
  show gW X (d + 3) k_196 0 [some (vR 800), some (vI (nI lo)), some (vI hi)] [] p sg _
  refine g_pure 4 (i' := 4) (lv' := [some (vR 800), some (vI (nI lo)), some (vI hi)]) (st' := [vI (nI 4), vI hi, vI (nI lo), vR 800]) rfl ?_
  exact g_cV1E (p' := p) rfl (args := [vR 800, vI (nI lo), vI hi, vI (nI 4)]) (rest := []) rfl rfl rfl (s_197b (d := d) h (by decide) hlo hm e c) (fun s hs => g_iret rfl ⟨s, hs, rfl⟩)
theorem s_191l {X : Nat × (Nat → Int32)} {d : Nat} {p : Nat → Nat} {sg : Mg} {T : Nat → Int32} {n k : Nat} (h : MK T n k sg) : gF X (d + 3) 191 [vR 800] p sg (fun r => ∃ s, (ML T n k s ∧ NR T n k sg s) ∧ r = gR0 p s) :=
  gF_mono (s_191 h) (fun r ⟨s, hs, hr⟩ => ⟨s, ⟨⟨h.1.mf hs.1, h.2.1, hs.2.1, hs.2.2⟩, hs.1, hs.2.2⟩, hr⟩)
theorem s_214a {X : Nat × (Nat → Int32)} {d : Nat} {p : Nat → Nat} {sg : Mg} {T : Nat → Int32} {n k j : Nat} (hj : j < 77) (hw : wL (am_SL j)) (h : MK T n k sg) (c : isW T n k (am_SL j)) : gF X (d + 4) 214 [vR 800, vS j] p sg (fun r => ∃ s, (MK T n (nxK T n k) s ∧ NR T n k sg s) ∧ r = gRv p s 1) := by
  refine g_in (cd := k_214) (nL := 2) (rc := 13) rfl (g_A (a := 800) (kd := 0) (n := 12) rfl (by decide)) (g_c1 rfl) ?_
  show gW X (d + 3) k_214 0 [some (vR 800), some (vS j)] [] p sg _
  refine g_pure 1 (i' := 1) (lv' := [some (vR 800), some (vS j)]) (st' := [vR 800]) rfl ?_
  refine g_cV0E (p' := p) rfl (args := [vR 800]) (rest := []) rfl rfl rfl (s_191l (d := d) h) (fun s hs => ?_)
  refine g_pure 2 (i' := 4) (lv' := [some (vR 800), some (vS j)]) (st' := [vS j, vR 800]) rfl ?_
  refine g_cV1 rfl (args := [vR 800, vS j]) (rest := []) rfl rfl rfl (s_193w (d := d + 2) hj hw hs.1) ?_
  refine g_if1 (i' := 8) (P := ¬ dcN (isW T n k (am_SL j)) = true) rfl rfl g_eqB (fun h9 => absurd (dcN_t c) h9) (fun _ => ?_)
  refine g_pure 1 (i' := 7) (lv' := [some (vR 800), some (vS j)]) (st' := [vI 1]) rfl ?_
  exact g_bret rfl g_nar1 ⟨s, ⟨hs.1.w hw c, hs.2⟩, rfl⟩
theorem s_214b {X : Nat × (Nat → Int32)} {d : Nat} {p : Nat → Nat} {sg : Mg} {T : Nat → Int32} {n k j : Nat} (hj : j < 77) (hw : wL (am_SL j)) (h : MK T n k sg) (c : ¬ isW T n k (am_SL j)) : gF X (d + 4) 214 [vR 800, vS j] p sg (fun r => ∃ s, (MK T n k s ∧ NR T n k sg s) ∧ r = gRv p s 0) := by
  have hb := spK_ok (T := T) h.2.1
  refine g_in (cd := k_214) (nL := 2) (rc := 13) rfl (g_A (a := 800) (kd := 0) (n := 12) rfl (by decide)) (g_c1 rfl) ?_
  show gW X (d + 3) k_214 0 [some (vR 800), some (vS j)] [] p sg _
  refine g_pure 1 (i' := 1) (lv' := [some (vR 800), some (vS j)]) (st' := [vR 800]) rfl ?_
  refine g_cV0E (p' := p) rfl (args := [vR 800]) (rest := []) rfl rfl rfl (s_191l (d := d) h) (fun s hs => ?_)
  refine g_pure 2 (i' := 4) (lv' := [some (vR 800), some (vS j)]) (st' := [vS j, vR 800]) rfl ?_
  refine g_cV1 rfl (args := [vR 800, vS j]) (rest := []) rfl rfl rfl (s_193w (d := d + 2) hj hw hs.1) ?_
  refine g_if1 (i' := 8) (P := ¬ dcN (isW T n k (am_SL j)) = true) rfl rfl g_eqB (fun _ => ?_) (fun h9 => absurd (dcN_n.mpr c) h9)
  refine g_pure 2 (i' := 10) (lv' := [some (vR 800), some (vS j)]) (st' := [vR 800, vR 800]) rfl ?_
  refine g_getI rfl (g_A (a := 800) (kd := 0) (n := 12) rfl (by decide)) (show _ = nI (spK T n k) from hs.2.2) ?_
  refine g_putI rfl (g_A (a := 800) (kd := 0) (n := 12) rfl (by decide)) ?_
  refine g_pure 1 (i' := 13) (lv' := [some (vR 800), some (vS j)]) (st' := [vI 0]) rfl ?_
  exact g_bret rfl g_nar0 ⟨_, ⟨⟨hs.1.1.mf (MF.rf _).m9, h.2.1, spK T n k, mu_self, hb.2.1, spK_sp h.2.1⟩, hs.2.1.m9, by rw [mu_idx (by decide)]; exact hs.2.2⟩, rfl⟩
/-- a sign that is no letter, no figure and no blank -/
def sgn (c : Int32) : Prop := isL c = false ∧ isD c = false
theorem nxK_G {T : Nat → Int32} {n k : Nat} {c : Int32} (hc : sgn c) (h : isG T n k c) : nxK T n k = spK T n k + 1 := by
  unfold nxK enK
  rw [if_pos h.1, h.2, if_neg (by rw [hc.1]; decide), if_neg (by rw [hc.2]; decide)]
theorem s_223a {X : Nat × (Nat → Int32)} {d : Nat} {p : Nat → Nat} {sg : Mg} {T : Nat → Int32} {n k : Nat} {c : Int32} (hc : sgn c) (h : MK T n k sg) (g : isG T n k c) : gF X (d + 3) 223 [vR 800, vI c] p sg (fun r => ∃ s, (MK T n (nxK T n k) s ∧ NR T n k sg s) ∧ r = gRv p s 1) := by
  obtain ⟨hX, hk, a, h9, ha, he⟩ := h
  have hx := nxK_ok (T := T) hk
  have hG := nxK_G hc g
  refine g_in (cd := k_223) (nL := 2) (rc := 13) rfl (g_A (a := 800) (kd := 0) (n := 12) rfl (by decide)) (g_c1 rfl) ?_
  show gW X (d + 2) k_223 0 [some (vR 800), some (vI c)] [] p sg _
  refine g_pure 1 (i' := 1) (lv' := [some (vR 800), some (vI c)]) (st' := [vR 800]) rfl ?_
  refine g_cV0E (p' := p) rfl (args := [vR 800]) (rest := []) rfl rfl rfl (s_188 (d := d) hX h9 ha) (fun s h1 => ?_)
  rw [he] at h1
  refine g_pure 3 (i' := 5) (lv' := [some (vR 800), some (vI c)]) (st' := [vI c, vI c, vR 800]) rfl ?_
  refine g_cV1 rfl (args := [vR 800, vI c, vI c]) (rest := []) rfl rfl rfl (s_189 (d := d + 1) (hX.mf h1.1) h1.2.1 (spK_ok hk).2.1) ?_
  refine g_if1 (i' := 9) (P := dcN (spK T n k < n ∧ ¬ T (spK T n k) < c ∧ ¬ c < T (spK T n k)) = true) rfl rfl g_neB (fun _ => ?_) (fun h9 => absurd (dcN_t ⟨g.1, by rw [g.2]; exact Int32.lt_irrefl, by rw [g.2]; exact Int32.lt_irrefl⟩) h9)
  refine g_pure 2 (i' := 11) (lv' := [some (vR 800), some (vI c)]) (st' := [vR 800, vR 800]) rfl ?_
  refine g_getI rfl (g_A (a := 800) (kd := 0) (n := 12) rfl (by decide)) (show _ = nI (spK T n k) from h1.2.1) ?_
  refine g_pure 2 (i' := 14) (lv' := [some (vR 800), some (vI c)]) (st' := [vI (nI (spK T n k) + 1), vR 800]) rfl ?_
  refine g_putI rfl (g_A (a := 800) (kd := 0) (n := 12) rfl (by decide)) ?_
  refine g_pure 1 (i' := 16) (lv' := [some (vR 800), some (vI c)]) (st' := [vI 1]) rfl ?_
  refine g_bret rfl g_nar1 ⟨_, ⟨⟨(hX.mf h1.1).mf (MF.rf _).m9, hx.2.1, nxK T n k, ?_, hx.2.1, rfl⟩, h1.1.m9, by rw [mu_idx (by decide)]; exact h1.2.2⟩, rfl⟩
  rw [mu_self, hG]
  exact nI_add _ 1
theorem s_223b {X : Nat × (Nat → Int32)} {d : Nat} {p : Nat → Nat} {sg : Mg} {T : Nat → Int32} {n k : Nat} {c : Int32} (h : MK T n k sg) (g : ¬ isG T n k c) : gF X (d + 3) 223 [vR 800, vI c] p sg (fun r => ∃ s, (MK T n k s ∧ NR T n k sg s) ∧ r = gRv p s 0) := by
  obtain ⟨hX, hk, a, h9, ha, he⟩ := h
  have hb := spK_ok (T := T) hk
  refine g_in (cd := k_223) (nL := 2) (rc := 13) rfl (g_A (a := 800) (kd := 0) (n := 12) rfl (by decide)) (g_c1 rfl) ?_
  show gW X (d + 2) k_223 0 [some (vR 800), some (vI c)] [] p sg _
  refine g_pure 1 (i' := 1) (lv' := [some (vR 800), some (vI c)]) (st' := [vR 800]) rfl ?_
  refine g_cV0E (p' := p) rfl (args := [vR 800]) (rest := []) rfl rfl rfl (s_188 (d := d) hX h9 ha) (fun s h1 => ?_)
  rw [he] at h1
  refine g_pure 3 (i' := 5) (lv' := [some (vR 800), some (vI c)]) (st' := [vI c, vI c, vR 800]) rfl ?_
  refine g_cV1 rfl (args := [vR 800, vI c, vI c]) (rest := []) rfl rfl rfl (s_189 (d := d + 1) (hX.mf h1.1) h1.2.1 hb.2.1) ?_
  refine g_if1 (i' := 9) (P := dcN (spK T n k < n ∧ ¬ T (spK T n k) < c ∧ ¬ c < T (spK T n k)) = true) rfl rfl g_neB (fun h9 => absurd ?_ g) (fun _ => ?_)
  · have h9 := dcN_i.mp h9
    exact ⟨h9.1, Int32.le_antisymm (Int32.not_lt.mp h9.2.2) (Int32.not_lt.mp h9.2.1)⟩
  · refine g_pure 1 (i' := 8) (lv' := [some (vR 800), some (vI c)]) (st' := [vI 0]) rfl ?_
    exact g_bret rfl g_nar0 ⟨s, ⟨⟨hX.mf h1.1, hk, spK T n k, h1.2.1, hb.2.1, spK_sp hk⟩, h1.1, h1.2.2⟩, rfl⟩
