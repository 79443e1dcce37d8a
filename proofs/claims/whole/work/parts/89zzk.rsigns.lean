/-! LAW: signs, parts and sums, in the reference (made by wip/whole/gen89zzk.py) -/
theorem b_224_0 {X : Nat × (Nat → Int32)} {d : Nat} {p : Nat → Nat} {sg : Mg} {Q : am_R → Prop} {n : Nat} (u_n : n ≤ 399) (kn_800_15 : sg 800 15 = nI n) {a : Int32} {b : Int32}
    (o1 : ∀ s1 : Mg, s1 = mu sg 801 (1607 + 2 * n) a → ∀ s2 : Mg, s2 = mu s1 801 (1608 + 2 * n) b → ∀ s3 : Mg, s3 = mu s2 800 15 (nI (n + 1)) → Q (gR0 p s3)) :
    gW X (d) k_224 0 [some (vR 800), some (vI a), some (vI b)] [] p sg Q := by
  refine g_pure 5 (i' := 5) (lv' := [some (vR 800), some (vI a), some (vI b)]) (st' := [vR 800, vI 2, vI 1607, vR 801]) rfl ?_
  refine g_getI rfl (g_A (a := 800) (kd := 0) (n := 12) rfl (by decide)) (show _ = nI n from kn_800_15) ?_
  refine g_pure 3 (i' := 9) (lv' := [some (vR 800), some (vI a), some (vI b)]) (st' := [vI a, vI (1607 + (2 * nI n)), vR 801]) rfl ?_
  refine gW_eq (lv' := [some (vR 800), some (vI a), some (vI b)]) (st' := [vI a, vI (nI (1607 + 2 * n)), vR 801]) rfl (by rw [(show (1607 + (2 * nI n)) = nI (1607 + 2 * n) from ((g_add (show (1607 : Int32) = nI 1607 from rfl) (g_mul (show (2 : Int32) = nI 2 from rfl) (rfl : nI n = nI n)))).trans (congrArg nI (by omega)))]) rfl ?_
  refine g_ast rfl (g_A (a := 801) (kd := 1) (n := 2407) rfl (by decide)) (by decide) (show nI (1607 + 2 * n) = nI (1607 + 2 * n) from (rfl : nI (1607 + 2 * n) = nI (1607 + 2 * n))) (by omega) ?_
  refine g_setv (fun s1 es1 => ?_)
  have kns1_800_15 : s1 800 15 = nI n := by rw [es1, mu_ne (by decide)]; exact kn_800_15
  refine g_pure 5 (i' := 15) (lv' := [some (vR 800), some (vI a), some (vI b)]) (st' := [vR 800, vI 2, vI 1607, vR 801]) rfl ?_
  refine g_getI rfl (g_A (a := 800) (kd := 0) (n := 12) rfl (by decide)) (show _ = nI n from kns1_800_15) ?_
  refine g_pure 5 (i' := 21) (lv' := [some (vR 800), some (vI a), some (vI b)]) (st' := [vI b, vI ((1607 + (2 * nI n)) + 1), vR 801]) rfl ?_
  refine gW_eq (lv' := [some (vR 800), some (vI a), some (vI b)]) (st' := [vI b, vI (nI (1608 + 2 * n)), vR 801]) rfl (by rw [(show ((1607 + (2 * nI n)) + 1) = nI (1608 + 2 * n) from ((g_add (g_add (show (1607 : Int32) = nI 1607 from rfl) (g_mul (show (2 : Int32) = nI 2 from rfl) (rfl : nI n = nI n))) (show (1 : Int32) = nI 1 from rfl))).trans (congrArg nI (by omega)))]) rfl ?_
  refine g_ast rfl (g_A (a := 801) (kd := 1) (n := 2407) rfl (by decide)) (by decide) (show nI (1608 + 2 * n) = nI (1608 + 2 * n) from (rfl : nI (1608 + 2 * n) = nI (1608 + 2 * n))) (by omega) ?_
  refine g_setv (fun s2 es2 => ?_)
  have kns2_800_15 : s2 800 15 = nI n := by rw [es2, mu_ne (by decide)]; exact kns1_800_15
  refine g_pure 2 (i' := 24) (lv' := [some (vR 800), some (vI a), some (vI b)]) (st' := [vR 800, vR 800]) rfl ?_
  refine g_getI rfl (g_A (a := 800) (kd := 0) (n := 12) rfl (by decide)) (show _ = nI n from kns2_800_15) ?_
  refine g_pure 2 (i' := 27) (lv' := [some (vR 800), some (vI a), some (vI b)]) (st' := [vI (nI n + 1), vR 800]) rfl ?_
  refine gW_eq (lv' := [some (vR 800), some (vI a), some (vI b)]) (st' := [vI (nI (n + 1)), vR 800]) rfl (by rw [(show (nI n + 1) = nI (n + 1) from ((g_add (rfl : nI n = nI n) (show (1 : Int32) = nI 1 from rfl))).trans (congrArg nI (by omega)))]) rfl ?_
  refine g_putI rfl (g_A (a := 800) (kd := 0) (n := 12) rfl (by decide)) ?_
  refine g_setv (fun s3 es3 => ?_)
  have kns3_800_15 : s3 800 15 = nI (n + 1) := by rw [es3]; exact mu_self.trans ((rfl : nI (n + 1) = nI (n + 1)))
  refine g_vret rfl ?_
  exact o1 s1 es1 s2 es2 s3 es3

/-- reading a condition in the reference keeps all but this -/
def FQ (sg s : Mg) : Prop := (∀ c, c ≠ 800 → c ≠ 801 → s c = sg c) ∧ (∀ f, f ≠ 9 → f ≠ 11 → f ≠ 12 → f ≠ 15 → s 800 f = sg 800 f) ∧ ∀ i, i < 1607 → s 801 i = sg 801 i
/-- .. if it comes to an end -/
def FQd (sg s : Mg) : Prop := FQ sg s ∧ s 800 12 = sg 800 12
theorem FQ.rf (sg : Mg) : FQ sg sg := ⟨fun _ _ _ => rfl, fun _ _ _ _ _ => rfl, fun _ _ => rfl⟩
theorem FQ.tr {sg s s' : Mg} (h : FQ sg s) (g : FQ s s') : FQ sg s' := ⟨fun c a b => (g.1 c a b).trans (h.1 c a b), fun f a b c d => (g.2.1 f a b c d).trans (h.2.1 f a b c d), fun i hi => (g.2.2 i hi).trans (h.2.2 i hi)⟩
theorem FQd.rf (sg : Mg) : FQd sg sg := ⟨FQ.rf sg, rfl⟩
theorem FQd.tr {sg s s' : Mg} (h : FQd sg s) (g : FQd s s') : FQd sg s' := ⟨h.1.tr g.1, g.2.trans h.2⟩
theorem FQd.of {sg s : Mg} (g : MF sg s) : FQd sg s := ⟨⟨fun c c1 _ => g.1 c c1, fun f a b _ _ => g.2 f a b, fun i hi => by rw [g.1 801 (by decide)]⟩, g.2 12 (by decide) (by decide)⟩
theorem FQd.mf {sg s s' : Mg} (h : FQd sg s) (g : MF s s') : FQd sg s' := h.tr (FQd.of g)
/-- what has been written of a condition, in the reference -/
def LCm (E : LE) (s : Mg) : Prop := s 800 15 = nI E.length ∧ ∀ i, i < E.length → s 801 (1607 + 2 * i) = nI (E.getD i (0, 0)).1 ∧ s 801 (1608 + 2 * i) = nI (E.getD i (0, 0)).2
theorem LCm.mf {E : LE} {sg s : Mg} (h : LCm E sg) (g : MF sg s) : LCm E s := ⟨(g.2 15 (by decide) (by decide)).trans h.1, fun i hi => by rw [g.1 801 (by decide)]; exact h.2 i hi⟩
/-- a sign written -/
def EMm (a b : Int32) (E : LE) (sg s : Mg) : Prop := (∀ c, c ≠ 800 → c ≠ 801 → s c = sg c) ∧ (∀ f, f ≠ 15 → s 800 f = sg 800 f) ∧ (∀ i, i < 1607 + 2 * E.length → s 801 i = sg 801 i) ∧ s 800 15 = nI (E.length + 1) ∧ s 801 (1607 + 2 * E.length) = a ∧ s 801 (1608 + 2 * E.length) = b
theorem EMm.lc {q : Nat × Nat} {E : LE} {sg s : Mg} (g : EMm (nI q.1) (nI q.2) E sg s) (h : LCm E sg) : LCm (E ++ [q]) s := by
  obtain ⟨g1, g2, g3, g4, g5, g6⟩ := g
  refine ⟨by rw [g4, List.length_append]; rfl, fun i hi => ?_⟩
  rw [List.length_append] at hi
  have hi : i < E.length + 1 := hi
  rw [getD_app hi]
  by_cases c : i = E.length
  · rw [if_pos c, c]; exact ⟨g5, g6⟩
  · rw [if_neg c, g3 _ (by omega), g3 _ (by omega)]; exact h.2 i (by omega)
theorem FQd.em {a b : Int32} {E : LE} {sg0 sg s : Mg} (h : FQd sg0 sg) (g : EMm a b E sg s) : FQd sg0 s := h.tr ⟨⟨g.1, fun f _ _ _ d => g.2.1 f d, fun i hi => g.2.2.1 i (by omega)⟩, g.2.1 12 (by decide)⟩
theorem MK.em {a b : Int32} {E : LE} {sg s : Mg} {T : Nat → Int32} {n k : Nat} (h : MK T n k sg) (g : EMm a b E sg s) : MK T n k s := by
  obtain ⟨h1, h2, c, h3, h4⟩ := h
  exact ⟨⟨h1.1, (g.2.1 10 (by decide)).trans h1.2.1, fun i hi => by rw [g.1 805 (by decide) (by decide)]; exact h1.2.2 i hi⟩, h2, c, (g.2.1 9 (by decide)).trans h3, h4⟩
theorem s_224 {X : Nat × (Nat → Int32)} {d : Nat} {p : Nat → Nat} {sg : Mg} {E : LE} {a b : Int32} (h : LCm E sg) (hl : E.length < 400) : gF X (d + 1) 224 [vR 800, vI a, vI b] p sg (fun r => ∃ s, EMm a b E sg s ∧ r = gR0 p s) := by
  refine g_in (cd := k_224) (nL := 3) (rc := 13) rfl (g_A (a := 800) (kd := 0) (n := 12) rfl (by decide)) (g_c1 rfl) (b_224_0 (d := d) (by omega) h.1 (fun s1 e1 s2 e2 s3 e3 => ?_))
  refine ⟨s3, ⟨fun c c1 c2 => by rw [e3, mu_ne c1, e2, mu_ne c2, e1, mu_ne c2], fun f hf => by rw [e3, mu_idx hf, e2, mu_ne (by decide), e1, mu_ne (by decide)], fun i hi => by rw [e3, mu_ne (by decide), e2, mu_idx (by omega), e1, mu_idx (by omega)], by rw [e3, mu_self], ?_, ?_⟩, rfl⟩
  · rw [e3, mu_ne (by decide), e2, mu_idx (by omega), e1, mu_self]
  · rw [e3, mu_ne (by decide), e2, mu_self]
/-- it failed, at f -/
def LQl (f : Nat) (sg : Mg) (p : Nat → Nat) (r : am_R) : Prop := ∃ s, (FQ sg s ∧ s 800 11 = nI f) ∧ r = gRv p s 0
/-- how a piece of a condition ends in the reference -/
def lnQ (R : LR) (T : Nat → Int32) (n : Nat) (sg : Mg) (p : Nat → Nat) (r : am_R) : Prop := match R with
  | .inl f => LQl f sg p r
  | .inr q => ∃ s, (FQd sg s ∧ MK T n q.1 s ∧ LCm q.2 s) ∧ r = gRv p s 1
theorem LQl.fl {f : Nat} {sg s : Mg} {p : Nat → Nat} {r : am_R} (h : FQd sg s) (g : LQl f s p r) : LQl f sg p r := by
  obtain ⟨s', g1, g2⟩ := g
  exact ⟨s', ⟨h.1.tr g1.1, g1.2⟩, g2⟩
theorem lnQ_fl {R : LR} {T : Nat → Int32} {n : Nat} {sg s : Mg} {p : Nat → Nat} {r : am_R} (h : FQd sg s) (g : lnQ R T n s p r) : lnQ R T n sg p r := by
  cases R with
  | inl f => exact LQl.fl h g
  | inr q => obtain ⟨s2, g1, g2⟩ := g; exact ⟨s2, ⟨h.tr g1.1, g1.2⟩, g2⟩
/-- a call that reads a piece -/
theorem lnQ_call {X : Nat × (Nat → Int32)} {d : Nat} {cd : List am_CE} {i na : Nat} {lv : List (Option AV)} {st : List AV} {args rest : List AV} {p : Nat → Nat} {s sg : Mg} {Q : am_R → Prop} {pc nx y j : Nat} {x : Int32} {R : LR} {T : Nat → Int32} {n : Nat} (h : cd.drop i = (pc, .invokevirtual j, nx, na + 1, y, x) :: cd.drop (i + 1)) (hst : st = args.reverse ++ rest) (hl : args.length = na + 1) (hs : (rest.map am_cat).sum ≤ 8) (hF : FQd sg s) (hf : gF X d y args p s (lnQ R T n s p)) (g1 : ∀ f s2, R = .inl f → FQ sg s2 → s2 800 11 = nI f → gW X d cd (i + 1) lv (vI 0 :: rest) p s2 Q) (g2 : ∀ q s2, R = .inr q → FQd sg s2 → MK T n q.1 s2 → LCm q.2 s2 → gW X d cd (i + 1) lv (vI 1 :: rest) p s2 Q) : gW X d cd i lv st p s Q := by
  refine g_calV h hst hl hs hf (fun r hr => ?_)
  cases hR : R with
  | inl f =>
    rw [hR] at hr
    obtain ⟨s2, h2, rfl⟩ := hr
    exact gK_v (g1 f s2 hR (hF.1.tr h2.1) h2.2)
  | inr q =>
    rw [hR] at hr
    obtain ⟨s2, hs2, rfl⟩ := hr
    exact gK_v (g2 q s2 hR (hF.tr hs2.1) hs2.2.1 hs2.2.2)
section
variable {T : Nat → Int32} {n k : Nat}
theorem lt_noW (hk : k ≤ n) (h : ltK T n k = spK T n k) {w : List Int32} (hw : wL w) : ¬ isW T n k w := fun g => by
  have h1 := ltK_W hk hw g
  have h2 := g.1
  exact hw.1 (List.eq_nil_of_length_eq_zero (by omega))
theorem lt_pt (hk : k ≤ n) (h : ltK T n k = spK T n k) : ¬ ptW T n k < 8 := fun g => by
  obtain ⟨j, hj, hw⟩ := ptW_w g
  refine lt_noW hk h (wL_of ?_) hw
  have : ∀ j, j ∈ [25, 26, 27, 28, 29, 30, 31, 32] → (!(am_SL j).isEmpty && isL ((am_SL j).getD 0 0)) = true := by decide
  exact this j hj
theorem lt_noU (hk : k ≤ n) (h : ¬ ltK T n k = spK T n k) : ¬ isU T n k := fun g => by
  obtain ⟨q1, q2, q3, q4⟩ := fnd_spec (fun i => !isL (T i)) (n - spK T n k) (spK T n k)
  have h1 := (ltK_le (T := T) hk).1
  have h2 : (!isL (T (spK T n k))) = false := q3 (spK T n k) (Nat.le_refl _) (by unfold ltK at h h1; omega)
  have h3 := isD_L g.2
  exact h3 (by simpa using h2)
theorem ML.mk {s : Mg} (h : ML T n k s) (e : ltK T n k = spK T n k) : MK T n k s := by
  have hb := spK_ok (T := T) h.2.1
  exact ⟨h.1, h.2.1, spK T n k, by rw [h.2.2.1, e], hb.2.1, spK_sp h.2.1⟩
end
section
variable {X : Nat × (Nat → Int32)} {d : Nat} {p : Nat → Nat} {Q : am_R → Prop} {T : Nat → Int32} {n k : Nat} {E : LE}
theorem t_226c {s : Mg} {v : Nat} (hv : v < 1000) (hQ : Q (gRv p s 1)) : gW X (d + 3) k_226 72 [some (vR 800), some (vI (nI v))] [] p s Q := by
  refine g_pure 1 (i' := 73) (lv' := [some (vR 800), some (vI (nI v))]) (st' := [vI (nI v)]) rfl ?_
  refine g_if1 (i' := 76) (P := v < 0) rfl rfl (g_ltN rfl rfl (by omega) (by decide)) (fun h => by omega) (fun _ => ?_)
  refine g_pure 2 (i' := 77) (lv' := [some (vR 800), some (vI (nI v))]) (st' := [vI 1]) rfl ?_
  exact g_bret rfl g_nar1 hQ
theorem t_226d {s : Mg} (hQ : Q (gRv p s 0)) : gW X (d + 3) k_226 72 [some (vR 800), some (vI (-1))] [] p s Q := by
  refine g_pure 1 (i' := 73) (lv' := [some (vR 800), some (vI (-1))]) (st' := [vI (-1)]) rfl ?_
  refine g_if1 (i' := 76) (P := True) rfl rfl ⟨fun _ => trivial, fun _ => show (-1 : Int32) < 0 by decide⟩ (fun _ => ?_) (fun h => absurd trivial h)
  refine g_pure 1 (i' := 77) (lv' := [some (vR 800), some (vI (-1))]) (st' := [vI 0]) rfl ?_
  exact g_bret rfl g_nar0 hQ
theorem t_226a {s : Mg} {i : Nat} (hi : i < 8) (hC : LCm E s) (hl : E.length < 400) (hQ : ∀ s2, EMm (nI i) (nI 0) E s s2 → Q (gRv p s2 1)) : gW X (d + 3) k_226 68 [some (vR 800), some (vI (nI i))] [] p s Q := by
  refine g_pure 3 (i' := 71) (lv' := [some (vR 800), some (vI (nI i))]) (st' := [vI (nI 0), vI (nI i), vR 800]) rfl ?_
  refine g_cV0E (p' := p) rfl (args := [vR 800, vI (nI i), vI (nI 0)]) (rest := []) rfl rfl rfl (s_224 (d := d + 2) hC hl) (fun s2 hs2 => ?_)
  exact t_226c (d := d) (by omega) (hQ s2 hs2)
theorem t_226b {s : Mg} (hC : LCm E s) (hl : E.length < 400) (hQ : ∀ s2, EMm (-1) (nI 0) E s s2 → Q (gRv p s2 0)) : gW X (d + 3) k_226 68 [some (vR 800), some (vI (-1))] [] p s Q := by
  refine g_pure 3 (i' := 71) (lv' := [some (vR 800), some (vI (-1))]) (st' := [vI (nI 0), vI (-1), vR 800]) rfl ?_
  refine g_cV0E (p' := p) rfl (args := [vR 800, vI (-1), vI (nI 0)]) (rest := []) rfl rfl rfl (s_224 (d := d + 2) hC hl) (fun s2 hs2 => ?_)
  exact t_226d (d := d) (hQ s2 hs2)
end
theorem s_226 {X : Nat × (Nat → Int32)} {d : Nat} {p : Nat → Nat} {sg : Mg} {T : Nat → Int32} {n k : Nat} {E : LE} (hM : MK T n k sg) (hC : LCm E sg) (hE : E.length + 1 ≤ k) : gF X (d + 4) 226 [vR 800] p sg (lnQ (pPart T n k E) T n sg p) := by
  have hk := hM.2.1
  have hn := hM.1.1
  have hb := ltK_le (T := T) hk
  refine g_in (cd := k_226) (nL := 2) (rc := 13) rfl (g_A (a := 800) (kd := 0) (n := 12) rfl (by decide)) (g_c1 rfl) ?_
  show gW X (d + 3) k_226 0 [some (vR 800), none] [] p sg _
  refine g_pure 1 (i' := 1) (lv' := [some (vR 800), none]) (st' := [vR 800]) rfl ?_
  refine g_cV0E (p' := p) rfl (args := [vR 800]) (rest := []) rfl rfl rfl (s_191l (d := d) hM) (fun s hs => ?_)
  have hF : FQd sg s := FQd.of hs.2.1
  have hC1 : LCm E s := hC.mf hs.2.1
  refine g_pure 1 (i' := 3) (lv' := [some (vR 800), none]) (st' := [vR 800]) rfl ?_
  refine g_getI rfl (g_A (a := 800) (kd := 0) (n := 12) rfl (by decide)) (show _ = nI (ltK T n k) from hs.1.2.2.1) ?_
  refine g_pure 1 (i' := 5) (lv' := [some (vR 800), none]) (st' := [vR 800, vI (nI (ltK T n k))]) rfl ?_
  refine g_getI rfl (g_A (a := 800) (kd := 0) (n := 12) rfl (by decide)) (show _ = nI (spK T n k) from hs.1.2.2.2) ?_
  unfold pPart
  refine g_if2 (i' := 18) (P := ¬ ltK T n k = spK T n k) rfl rfl (g_neN rfl rfl (by omega) (by omega)) (fun c => ?_) (fun c => ?_)
  · rw [sel_f (lt_noU hk c)]
    refine g_pure 2 (i' := 20) (lv' := [some (vR 800), none]) (st' := [vS 51, vR 800]) rfl ?_
    refine g_cV1 rfl (args := [vR 800, vS 51]) (rest := []) rfl rfl rfl (s_193w (d := d + 2) (by decide) (wL_of (by decide)) hs.1) ?_
    refine g_if1 (i' := 24) (P := ¬ dcN (isW T n k (am_SL 51)) = true) rfl rfl g_eqB (fun n25 => ?_) (fun h => ?_)
    rotate_left
    · have h : isW T n k (am_SL 51) := dcN_i.mp (Classical.not_not.mp h)
      have e : ptW T n k = 0 := by unfold ptW; rw [sel_t (show isW T n k (am_SL 25) from h)]
      refine g_pure 3 (i' := 68) (lv' := [some (vR 800), some (vI (nI 0))]) (st' := []) rfl ?_
      refine t_226a (d := d) (i := 0) (by decide) hC1 (by omega) (fun s2 hs2 => ?_)
      rw [sel_t (by omega), e]
      exact ⟨s2, ⟨(hF.em hs2), (hs.1.w (wL_of (by decide)) h).em hs2, hs2.lc (q := (0, 0)) hC1⟩, rfl⟩
    have n25 : ¬ isW T n k (am_SL 25) := dcN_n.mp n25
    refine g_pure 2 (i' := 26) (lv' := [some (vR 800), none]) (st' := [vS 50, vR 800]) rfl ?_
    refine g_cV1 rfl (args := [vR 800, vS 50]) (rest := []) rfl rfl rfl (s_193w (d := d + 2) (by decide) (wL_of (by decide)) hs.1) ?_
    refine g_if1 (i' := 30) (P := ¬ dcN (isW T n k (am_SL 50)) = true) rfl rfl g_eqB (fun n26 => ?_) (fun h => ?_)
    rotate_left
    · have h : isW T n k (am_SL 50) := dcN_i.mp (Classical.not_not.mp h)
      have e : ptW T n k = 1 := by unfold ptW; rw [sel_f n25, sel_t (show isW T n k (am_SL 26) from h)]
      refine g_pure 3 (i' := 68) (lv' := [some (vR 800), some (vI (nI 1))]) (st' := []) rfl ?_
      refine t_226a (d := d) (i := 1) (by decide) hC1 (by omega) (fun s2 hs2 => ?_)
      rw [sel_t (by omega), e]
      exact ⟨s2, ⟨(hF.em hs2), (hs.1.w (wL_of (by decide)) h).em hs2, hs2.lc (q := (1, 0)) hC1⟩, rfl⟩
    have n26 : ¬ isW T n k (am_SL 26) := dcN_n.mp n26
    refine g_pure 2 (i' := 32) (lv' := [some (vR 800), none]) (st' := [vS 69, vR 800]) rfl ?_
    refine g_cV1 rfl (args := [vR 800, vS 69]) (rest := []) rfl rfl rfl (s_193w (d := d + 2) (by decide) (wL_of (by decide)) hs.1) ?_
    refine g_if1 (i' := 36) (P := ¬ dcN (isW T n k (am_SL 69)) = true) rfl rfl g_eqB (fun n27 => ?_) (fun h => ?_)
    rotate_left
    · have h : isW T n k (am_SL 69) := dcN_i.mp (Classical.not_not.mp h)
      have e : ptW T n k = 2 := by unfold ptW; rw [sel_f n25, sel_f n26, sel_t (show isW T n k (am_SL 27) from h)]
      refine g_pure 3 (i' := 68) (lv' := [some (vR 800), some (vI (nI 2))]) (st' := []) rfl ?_
      refine t_226a (d := d) (i := 2) (by decide) hC1 (by omega) (fun s2 hs2 => ?_)
      rw [sel_t (by omega), e]
      exact ⟨s2, ⟨(hF.em hs2), (hs.1.w (wL_of (by decide)) h).em hs2, hs2.lc (q := (2, 0)) hC1⟩, rfl⟩
    have n27 : ¬ isW T n k (am_SL 27) := dcN_n.mp n27
    refine g_pure 2 (i' := 38) (lv' := [some (vR 800), none]) (st' := [vS 70, vR 800]) rfl ?_
    refine g_cV1 rfl (args := [vR 800, vS 70]) (rest := []) rfl rfl rfl (s_193w (d := d + 2) (by decide) (wL_of (by decide)) hs.1) ?_
    refine g_if1 (i' := 42) (P := ¬ dcN (isW T n k (am_SL 70)) = true) rfl rfl g_eqB (fun n28 => ?_) (fun h => ?_)
    rotate_left
    · have h : isW T n k (am_SL 70) := dcN_i.mp (Classical.not_not.mp h)
      have e : ptW T n k = 3 := by unfold ptW; rw [sel_f n25, sel_f n26, sel_f n27, sel_t (show isW T n k (am_SL 28) from h)]
      refine g_pure 3 (i' := 68) (lv' := [some (vR 800), some (vI (nI 3))]) (st' := []) rfl ?_
      refine t_226a (d := d) (i := 3) (by decide) hC1 (by omega) (fun s2 hs2 => ?_)
      rw [sel_t (by omega), e]
      exact ⟨s2, ⟨(hF.em hs2), (hs.1.w (wL_of (by decide)) h).em hs2, hs2.lc (q := (3, 0)) hC1⟩, rfl⟩
    have n28 : ¬ isW T n k (am_SL 28) := dcN_n.mp n28
    refine g_pure 2 (i' := 44) (lv' := [some (vR 800), none]) (st' := [vS 71, vR 800]) rfl ?_
    refine g_cV1 rfl (args := [vR 800, vS 71]) (rest := []) rfl rfl rfl (s_193w (d := d + 2) (by decide) (wL_of (by decide)) hs.1) ?_
    refine g_if1 (i' := 48) (P := ¬ dcN (isW T n k (am_SL 71)) = true) rfl rfl g_eqB (fun n29 => ?_) (fun h => ?_)
    rotate_left
    · have h : isW T n k (am_SL 71) := dcN_i.mp (Classical.not_not.mp h)
      have e : ptW T n k = 4 := by unfold ptW; rw [sel_f n25, sel_f n26, sel_f n27, sel_f n28, sel_t (show isW T n k (am_SL 29) from h)]
      refine g_pure 3 (i' := 68) (lv' := [some (vR 800), some (vI (nI 4))]) (st' := []) rfl ?_
      refine t_226a (d := d) (i := 4) (by decide) hC1 (by omega) (fun s2 hs2 => ?_)
      rw [sel_t (by omega), e]
      exact ⟨s2, ⟨(hF.em hs2), (hs.1.w (wL_of (by decide)) h).em hs2, hs2.lc (q := (4, 0)) hC1⟩, rfl⟩
    have n29 : ¬ isW T n k (am_SL 29) := dcN_n.mp n29
    refine g_pure 2 (i' := 50) (lv' := [some (vR 800), none]) (st' := [vS 72, vR 800]) rfl ?_
    refine g_cV1 rfl (args := [vR 800, vS 72]) (rest := []) rfl rfl rfl (s_193w (d := d + 2) (by decide) (wL_of (by decide)) hs.1) ?_
    refine g_if1 (i' := 54) (P := ¬ dcN (isW T n k (am_SL 72)) = true) rfl rfl g_eqB (fun n30 => ?_) (fun h => ?_)
    rotate_left
    · have h : isW T n k (am_SL 72) := dcN_i.mp (Classical.not_not.mp h)
      have e : ptW T n k = 5 := by unfold ptW; rw [sel_f n25, sel_f n26, sel_f n27, sel_f n28, sel_f n29, sel_t (show isW T n k (am_SL 30) from h)]
      refine g_pure 3 (i' := 68) (lv' := [some (vR 800), some (vI (nI 5))]) (st' := []) rfl ?_
      refine t_226a (d := d) (i := 5) (by decide) hC1 (by omega) (fun s2 hs2 => ?_)
      rw [sel_t (by omega), e]
      exact ⟨s2, ⟨(hF.em hs2), (hs.1.w (wL_of (by decide)) h).em hs2, hs2.lc (q := (5, 0)) hC1⟩, rfl⟩
    have n30 : ¬ isW T n k (am_SL 30) := dcN_n.mp n30
    refine g_pure 2 (i' := 56) (lv' := [some (vR 800), none]) (st' := [vS 73, vR 800]) rfl ?_
    refine g_cV1 rfl (args := [vR 800, vS 73]) (rest := []) rfl rfl rfl (s_193w (d := d + 2) (by decide) (wL_of (by decide)) hs.1) ?_
    refine g_if1 (i' := 60) (P := ¬ dcN (isW T n k (am_SL 73)) = true) rfl rfl g_eqB (fun n31 => ?_) (fun h => ?_)
    rotate_left
    · have h : isW T n k (am_SL 73) := dcN_i.mp (Classical.not_not.mp h)
      have e : ptW T n k = 6 := by unfold ptW; rw [sel_f n25, sel_f n26, sel_f n27, sel_f n28, sel_f n29, sel_f n30, sel_t (show isW T n k (am_SL 31) from h)]
      refine g_pure 3 (i' := 68) (lv' := [some (vR 800), some (vI (nI 6))]) (st' := []) rfl ?_
      refine t_226a (d := d) (i := 6) (by decide) hC1 (by omega) (fun s2 hs2 => ?_)
      rw [sel_t (by omega), e]
      exact ⟨s2, ⟨(hF.em hs2), (hs.1.w (wL_of (by decide)) h).em hs2, hs2.lc (q := (6, 0)) hC1⟩, rfl⟩
    have n31 : ¬ isW T n k (am_SL 31) := dcN_n.mp n31
    refine g_pure 2 (i' := 62) (lv' := [some (vR 800), none]) (st' := [vS 74, vR 800]) rfl ?_
    refine g_cV1 rfl (args := [vR 800, vS 74]) (rest := []) rfl rfl rfl (s_193w (d := d + 2) (by decide) (wL_of (by decide)) hs.1) ?_
    refine g_if1 (i' := 66) (P := ¬ dcN (isW T n k (am_SL 74)) = true) rfl rfl g_eqB (fun n32 => ?_) (fun h => ?_)
    rotate_left
    · have h : isW T n k (am_SL 74) := dcN_i.mp (Classical.not_not.mp h)
      have e : ptW T n k = 7 := by unfold ptW; rw [sel_f n25, sel_f n26, sel_f n27, sel_f n28, sel_f n29, sel_f n30, sel_f n31, sel_t (show isW T n k (am_SL 32) from h)]
      refine g_pure 3 (i' := 68) (lv' := [some (vR 800), some (vI (nI 7))]) (st' := []) rfl ?_
      refine t_226a (d := d) (i := 7) (by decide) hC1 (by omega) (fun s2 hs2 => ?_)
      rw [sel_t (by omega), e]
      exact ⟨s2, ⟨(hF.em hs2), (hs.1.w (wL_of (by decide)) h).em hs2, hs2.lc (q := (7, 0)) hC1⟩, rfl⟩
    have n32 : ¬ isW T n k (am_SL 32) := dcN_n.mp n32
    have e : ptW T n k = 8 := by unfold ptW; rw [sel_f n25, sel_f n26, sel_f n27, sel_f n28, sel_f n29, sel_f n30, sel_f n31, sel_f n32]
    refine g_pure 2 (i' := 68) (lv' := [some (vR 800), some (vI (-1))]) (st' := []) rfl ?_
    refine t_226b (d := d) hC1 (by omega) (fun s2 hs2 => ?_)
    rw [sel_f (by omega)]
    exact ⟨s2, ⟨(hF.em hs2).1, (hs2.2.1 11 (by decide)).trans hs.2.2⟩, rfl⟩
  · have c := Classical.not_not.mp c
    have hM1 := hs.1.mk c
    refine g_pure 4 (i' := 11) (lv' := [some (vR 800), none]) (st' := [vI (nI 3), vI 999, vI (nI 0), vR 800]) rfl ?_
    by_cases t : tkP T n k 3 0 1000
    · refine g_cV1E (p' := p) rfl (args := [vR 800, vI (nI 0), vI 999, vI (nI 3)]) (rest := []) rfl rfl rfl (s_197a (d := d) (m := 1000) hM1 (by decide) (by decide) (by decide) (by decide) t) (fun s2 hs2 => ?_)
      refine g_pure 4 (i' := 16) (lv' := [some (vR 800), some (vI (nI (numK T n k)))]) (st' := [vI (nI (numK T n k)), vI (nI 10), vR 800]) rfl ?_
      refine g_cV0E (p' := p) rfl (args := [vR 800, vI (nI 10), vI (nI (numK T n k))]) (rest := []) rfl rfl rfl (s_224 (d := d + 2) (hC1.mf hs2.2.1) (by omega)) (fun s3 hs3 => ?_)
      refine g_pure 1 (i' := 72) (lv' := [some (vR 800), some (vI (nI (numK T n k)))]) (st' := []) rfl ?_
      rw [sel_t t.1, sel_t t]
      exact t_226c (d := d) t.2.2.2 ⟨s3, ⟨(hF.mf hs2.2.1).em hs3, hs2.1.em hs3, hs3.lc (q := (10, numK T n k)) (hC1.mf hs2.2.1)⟩, rfl⟩
    · refine g_cV1E (p' := p) rfl (args := [vR 800, vI (nI 0), vI 999, vI (nI 3)]) (rest := []) rfl rfl rfl (s_197b (d := d) (m := 1000) hM1 (by decide) (by decide) (by decide) (by decide) t) (fun s2 hs2 => ?_)
      refine g_pure 4 (i' := 16) (lv' := [some (vR 800), some (vI (-1))]) (st' := [vI (-1), vI (nI 10), vR 800]) rfl ?_
      refine g_cV0E (p' := p) rfl (args := [vR 800, vI (nI 10), vI (-1)]) (rest := []) rfl rfl rfl (s_224 (d := d + 2) (hC1.mf hs2.1) (by omega)) (fun s3 hs3 => ?_)
      refine g_pure 1 (i' := 72) (lv' := [some (vR 800), some (vI (-1))]) (st' := []) rfl ?_
      have e : sel (isU T n k) (sel (tkP T n k 3 0 1000) (.inr (nxK T n k, E ++ [(10, numK T n k)])) (.inl (spK T n k))) (sel (ptW T n k < 8) (.inr (nxK T n k, E ++ [(ptW T n k, 0)])) (.inl (spK T n k))) = (.inl (spK T n k) : LR) := by
        by_cases u : isU T n k
        · rw [sel_t u, sel_f t]
        · rw [sel_f u, sel_f (lt_pt hk c)]
      rw [e]
      exact t_226d (d := d) ⟨s3, ⟨((hF.mf hs2.1).em hs3).1, (hs3.2.1 11 (by decide)).trans hs2.2⟩, rfl⟩
