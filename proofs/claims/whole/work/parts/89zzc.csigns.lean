/-! LAW: signs and parts, in the class (made by wip/whole/gen89zzc.py) -/
theorem b_42_0 {X : Nat × (Nat → Int32)} {d : Nat} {p : Nat → Nat} {sg : Mg} {Q : am_R → Prop} {n : Nat} (u_n : n ≤ 400) (kn_308_5 : sg 308 5 = nI n) {v : Int32}
    (o1 : (400 ≤ n) → Q (gR0 p sg))
    (o2 : (¬ (400 ≤ n)) → ∀ s2 : Mg, s2 = mu sg 312 n v → ∀ s3 : Mg, s3 = mu s2 308 5 (nI (n + 1)) → Q (gR0 p s3)) :
    gW X (d) k_42 0 [some (vR 308), some (vI v)] [] p sg Q := by
  refine g_pure 1 (i' := 1) (lv' := [some (vR 308), some (vI v)]) (st' := [vR 308]) rfl ?_
  refine g_getI rfl (g_A (a := 308) (kd := 0) (n := 4) rfl (by decide)) (show _ = nI n from kn_308_5) ?_
  refine g_pure 2 (i' := 4) (lv' := [some (vR 308), some (vI v)]) (st' := [vR 312, vI (nI n)]) rfl ?_
  refine g_len rfl (by decide) (by decide) (g_A (a := 312) (kd := 1) (n := 400) rfl (by decide)) ?_
  refine gW_eq (lv' := [some (vR 308), some (vI v)]) (st' := [vI 400, vI (nI n)]) rfl (by rw [(show (nI 400 : Int32) = 400 from rfl)]) rfl ?_
  refine g_if2 (i' := 18) (P := 400 ≤ n) rfl rfl (g_geN (show nI n = nI n from (rfl : nI n = nI n)) (show 400 = nI 400 from (show (400 : Int32) = nI 400 from rfl)) (by omega) (by omega)) (fun h1 => ?_) (fun h1 => ?_)
  · refine g_vret rfl ?_
    exact o1 h1
  · refine g_pure 3 (i' := 9) (lv' := [some (vR 308), some (vI v)]) (st' := [vR 308, vR 312]) rfl ?_
    refine g_getI rfl (g_A (a := 308) (kd := 0) (n := 4) rfl (by decide)) (show _ = nI n from kn_308_5) ?_
    refine g_pure 1 (i' := 11) (lv' := [some (vR 308), some (vI v)]) (st' := [vI v, vI (nI n), vR 312]) rfl ?_
    refine g_ast rfl (g_A (a := 312) (kd := 1) (n := 400) rfl (by decide)) (by decide) (show nI n = nI n from (rfl : nI n = nI n)) (by omega) ?_
    refine g_setv (fun s2 es2 => ?_)
    have kns2_308_5 : s2 308 5 = nI n := by rw [es2, mu_ne (by decide)]; exact kn_308_5
    refine g_pure 2 (i' := 14) (lv' := [some (vR 308), some (vI v)]) (st' := [vR 308, vR 308]) rfl ?_
    refine g_getI rfl (g_A (a := 308) (kd := 0) (n := 4) rfl (by decide)) (show _ = nI n from kns2_308_5) ?_
    refine g_pure 2 (i' := 17) (lv' := [some (vR 308), some (vI v)]) (st' := [vI (nI n + 1), vR 308]) rfl ?_
    refine gW_eq (lv' := [some (vR 308), some (vI v)]) (st' := [vI (nI (n + 1)), vR 308]) rfl (by rw [(show (nI n + 1) = nI (n + 1) from ((g_add (rfl : nI n = nI n) (show (1 : Int32) = nI 1 from rfl))).trans (congrArg nI (by omega)))]) rfl ?_
    refine g_putI rfl (g_A (a := 308) (kd := 0) (n := 4) rfl (by decide)) ?_
    refine g_setv (fun s3 es3 => ?_)
    have kns3_308_5 : s3 308 5 = nI (n + 1) := by rw [es3]; exact mu_self.trans ((rfl : nI (n + 1) = nI (n + 1)))
    refine g_vret rfl ?_
    exact o2 h1 s2 es2 s3 es3

def cdL (q : Nat × Nat) : Int32 := cdOf (nI q.1) (nI q.2)
/-- what has been written of a condition, in the class -/
def LCd (E : LE) (s : Mg) : Prop := s 308 5 = nI E.length ∧ ∀ i, i < E.length → s 312 i = cdL (E.getD i (0, 0))
/-- reading a condition keeps all but this -/
def FL (sg s : Mg) : Prop := (∀ c, c ≠ 1 → c ≠ 308 → c ≠ 312 → s c = sg c) ∧ (∀ f, f ≠ 2 → f ≠ 3 → f ≠ 4 → s 1 f = sg 1 f) ∧ ∀ f, f ≠ 5 → s 308 f = sg 308 f
theorem FL.rf (sg : Mg) : FL sg sg := ⟨fun _ _ _ _ => rfl, fun _ _ _ _ => rfl, fun _ _ => rfl⟩
theorem FL.tr {sg s s' : Mg} (h : FL sg s) (g : FL s s') : FL sg s' := ⟨fun c c1 c2 c3 => (g.1 c c1 c2 c3).trans (h.1 c c1 c2 c3), fun f f2 f3 f4 => (g.2.1 f f2 f3 f4).trans (h.2.1 f f2 f3 f4), fun f hf => (g.2.2 f hf).trans (h.2.2 f hf)⟩
theorem FL.cn {sg s s' : Mg} (h : FL sg s) (g : CN s s') : FL sg s' := h.tr ⟨fun c c1 _ _ => g.1 c c1, fun f _ f3 f4 => g.2 f f3 f4, fun f _ => by rw [g.1 308 (by decide)]⟩
theorem LCd.eq {E : LE} {sg s : Mg} (h : LCd E sg) (e1 : s 308 = sg 308) (e2 : s 312 = sg 312) : LCd E s := by
  unfold LCd at h ⊢
  rw [e1, e2]
  exact h
theorem LCd.cn {E : LE} {sg s : Mg} (h : LCd E sg) (g : CN sg s) : LCd E s := h.eq (g.1 308 (by decide)) (g.1 312 (by decide))
/-- it failed, at f -/
def LFl (f : Nat) (sg : Mg) (p : Nat → Nat) (r : am_R) : Prop := ∃ s, (∀ c, c ≠ 1 → (c < 308 ∨ 313 ≤ c) → s c = sg c) ∧ s 1 1 = sg 1 1 ∧ s 1 5 = nI f ∧ r = gRx p s 0
theorem LFl.of {f : Nat} {sg s s' : Mg} {p : Nat → Nat} (h : FL sg s) (g : CF f s s') : LFl f sg p (gRx p s' 0) := ⟨s', fun c c1 c2 => (g.1 c c1).trans (h.1 c c1 (by omega) (by omega)), g.2.1.trans (h.2.1 1 (by decide) (by decide) (by decide)), g.2.2, rfl⟩
theorem LFl.fl {f : Nat} {sg s : Mg} {p : Nat → Nat} {r : am_R} (h : FL sg s) (g : LFl f s p r) : LFl f sg p r := by
  obtain ⟨s', g1, g2, g3, g4⟩ := g
  exact ⟨s', fun c c1 c2 => (g1 c c1 c2).trans (h.1 c c1 (by omega) (by omega)), g2.trans (h.2.1 1 (by decide) (by decide) (by decide)), g3, g4⟩
/-- a sign written -/
def EM (q : Nat × Nat) (E : LE) (sg s : Mg) : Prop := (∀ c, c ≠ 308 → c ≠ 312 → s c = sg c) ∧ (∀ f, f ≠ 5 → s 308 f = sg 308 f) ∧ LCd (E ++ [q]) s
theorem FL.em {q : Nat × Nat} {E : LE} {sg s s' : Mg} (h : FL sg s) (g : EM q E s s') : FL sg s' := h.tr ⟨fun c _ c2 c3 => g.1 c c2 c3, fun f _ _ _ => by rw [g.1 1 (by decide) (by decide)], g.2.1⟩
theorem s_42 {X : Nat × (Nat → Int32)} {d : Nat} {p : Nat → Nat} {sg : Mg} {E : LE} {q : Nat × Nat} {v : Int32} (h : LCd E sg) (hl : E.length < 400) (hv : v = cdL q) : gF X (d + 1) 42 [vR 308, vI v] p sg (fun r => ∃ s, EM q E sg s ∧ r = gR0 p s) := by
  subst hv
  refine g_in (cd := k_42) (nL := 2) (rc := 5) rfl (g_A (a := 308) (kd := 0) (n := 4) rfl (by decide)) (g_c1 rfl) (b_42_0 (d := d) (by omega) h.1 (fun c => absurd hl (by omega)) (fun _ s1 e1 s2 e2 => ?_))
  refine ⟨s2, ⟨fun c c1 c2 => by rw [e2, mu_ne c1, e1, mu_ne c2], fun f hf => by rw [e2, mu_idx hf, e1, mu_ne (by decide)], ?_, fun i hi => ?_⟩, rfl⟩
  · rw [e2, mu_self, List.length_append]; rfl
  · rw [List.length_append] at hi
    have hi : i < E.length + 1 := hi
    rw [e2, mu_ne (by decide), e1]
    by_cases c : i = E.length
    · subst c
      rw [mu_self, List.getD_eq_getElem?_getD, List.getElem?_append_right (Nat.le_refl _), Nat.sub_self]
      rfl
    · rw [mu_idx c, h.2 i (by omega), List.getD_eq_getElem?_getD, List.getD_eq_getElem?_getD, List.getElem?_append_left (by omega)]
theorem s_54 {X : Nat × (Nat → Int32)} {d : Nat} {p : Nat → Nat} {sg : Mg} {T : Nat → Int32} {n k : Nat} (hT : CT T n k sg) : gF X (d + 2) 54 [vR 5] p sg (fun r => (ptW T n k < 8 ∧ r = gRv p sg (nI (1000 + ptW T n k))) ∨ (¬ ptW T n k < 8 ∧ ∃ s, CF (spK T n k) sg s ∧ r = gRx p s 0)) := by
  refine g_in (cd := k_54) (nL := 1) (rc := 6) rfl (g_A (a := 5) (kd := 0) (n := 5) rfl (by decide)) (g_c1 rfl) ?_
  show gW X (d + 1) k_54 0 [some (vR 5)] [] p sg _
  refine g_pure 3 (i' := 3) (lv' := [some (vR 5)]) (st' := [vS 25, vR 1]) rfl ?_
  refine g_cV1 rfl (args := [vR 1, vS 25]) (rest := []) rfl rfl rfl (s_74 (d := d) (by decide) hT) ?_
  refine g_if1 (i' := 7) (P := ¬ dcN (isW T n k (am_SL 25)) = true) rfl rfl g_eqB (fun n25 => ?_) (fun h => ?_)
  rotate_left
  · have h := dcN_i.mp (Classical.not_not.mp h)
    have e : ptW T n k = 0 := by unfold ptW; rw [sel_t h]
    refine g_pure 1 (i' := 6) (lv' := [some (vR 5)]) (st' := [vI (nI (1000 + 0))]) rfl ?_
    exact g_iret rfl (Or.inl ⟨by rw [e]; decide, by rw [e]⟩)
  have n25 := dcN_n.mp n25
  refine g_pure 3 (i' := 10) (lv' := [some (vR 5)]) (st' := [vS 26, vR 1]) rfl ?_
  refine g_cV1 rfl (args := [vR 1, vS 26]) (rest := []) rfl rfl rfl (s_74 (d := d) (by decide) hT) ?_
  refine g_if1 (i' := 14) (P := ¬ dcN (isW T n k (am_SL 26)) = true) rfl rfl g_eqB (fun n26 => ?_) (fun h => ?_)
  rotate_left
  · have h := dcN_i.mp (Classical.not_not.mp h)
    have e : ptW T n k = 1 := by unfold ptW; rw [sel_f n25, sel_t h]
    refine g_pure 1 (i' := 13) (lv' := [some (vR 5)]) (st' := [vI (nI (1000 + 1))]) rfl ?_
    exact g_iret rfl (Or.inl ⟨by rw [e]; decide, by rw [e]⟩)
  have n26 := dcN_n.mp n26
  refine g_pure 3 (i' := 17) (lv' := [some (vR 5)]) (st' := [vS 27, vR 1]) rfl ?_
  refine g_cV1 rfl (args := [vR 1, vS 27]) (rest := []) rfl rfl rfl (s_74 (d := d) (by decide) hT) ?_
  refine g_if1 (i' := 21) (P := ¬ dcN (isW T n k (am_SL 27)) = true) rfl rfl g_eqB (fun n27 => ?_) (fun h => ?_)
  rotate_left
  · have h := dcN_i.mp (Classical.not_not.mp h)
    have e : ptW T n k = 2 := by unfold ptW; rw [sel_f n25, sel_f n26, sel_t h]
    refine g_pure 1 (i' := 20) (lv' := [some (vR 5)]) (st' := [vI (nI (1000 + 2))]) rfl ?_
    exact g_iret rfl (Or.inl ⟨by rw [e]; decide, by rw [e]⟩)
  have n27 := dcN_n.mp n27
  refine g_pure 3 (i' := 24) (lv' := [some (vR 5)]) (st' := [vS 28, vR 1]) rfl ?_
  refine g_cV1 rfl (args := [vR 1, vS 28]) (rest := []) rfl rfl rfl (s_74 (d := d) (by decide) hT) ?_
  refine g_if1 (i' := 28) (P := ¬ dcN (isW T n k (am_SL 28)) = true) rfl rfl g_eqB (fun n28 => ?_) (fun h => ?_)
  rotate_left
  · have h := dcN_i.mp (Classical.not_not.mp h)
    have e : ptW T n k = 3 := by unfold ptW; rw [sel_f n25, sel_f n26, sel_f n27, sel_t h]
    refine g_pure 1 (i' := 27) (lv' := [some (vR 5)]) (st' := [vI (nI (1000 + 3))]) rfl ?_
    exact g_iret rfl (Or.inl ⟨by rw [e]; decide, by rw [e]⟩)
  have n28 := dcN_n.mp n28
  refine g_pure 3 (i' := 31) (lv' := [some (vR 5)]) (st' := [vS 29, vR 1]) rfl ?_
  refine g_cV1 rfl (args := [vR 1, vS 29]) (rest := []) rfl rfl rfl (s_74 (d := d) (by decide) hT) ?_
  refine g_if1 (i' := 35) (P := ¬ dcN (isW T n k (am_SL 29)) = true) rfl rfl g_eqB (fun n29 => ?_) (fun h => ?_)
  rotate_left
  · have h := dcN_i.mp (Classical.not_not.mp h)
    have e : ptW T n k = 4 := by unfold ptW; rw [sel_f n25, sel_f n26, sel_f n27, sel_f n28, sel_t h]
    refine g_pure 1 (i' := 34) (lv' := [some (vR 5)]) (st' := [vI (nI (1000 + 4))]) rfl ?_
    exact g_iret rfl (Or.inl ⟨by rw [e]; decide, by rw [e]⟩)
  have n29 := dcN_n.mp n29
  refine g_pure 3 (i' := 38) (lv' := [some (vR 5)]) (st' := [vS 30, vR 1]) rfl ?_
  refine g_cV1 rfl (args := [vR 1, vS 30]) (rest := []) rfl rfl rfl (s_74 (d := d) (by decide) hT) ?_
  refine g_if1 (i' := 42) (P := ¬ dcN (isW T n k (am_SL 30)) = true) rfl rfl g_eqB (fun n30 => ?_) (fun h => ?_)
  rotate_left
  · have h := dcN_i.mp (Classical.not_not.mp h)
    have e : ptW T n k = 5 := by unfold ptW; rw [sel_f n25, sel_f n26, sel_f n27, sel_f n28, sel_f n29, sel_t h]
    refine g_pure 1 (i' := 41) (lv' := [some (vR 5)]) (st' := [vI (nI (1000 + 5))]) rfl ?_
    exact g_iret rfl (Or.inl ⟨by rw [e]; decide, by rw [e]⟩)
  have n30 := dcN_n.mp n30
  refine g_pure 3 (i' := 45) (lv' := [some (vR 5)]) (st' := [vS 31, vR 1]) rfl ?_
  refine g_cV1 rfl (args := [vR 1, vS 31]) (rest := []) rfl rfl rfl (s_74 (d := d) (by decide) hT) ?_
  refine g_if1 (i' := 49) (P := ¬ dcN (isW T n k (am_SL 31)) = true) rfl rfl g_eqB (fun n31 => ?_) (fun h => ?_)
  rotate_left
  · have h := dcN_i.mp (Classical.not_not.mp h)
    have e : ptW T n k = 6 := by unfold ptW; rw [sel_f n25, sel_f n26, sel_f n27, sel_f n28, sel_f n29, sel_f n30, sel_t h]
    refine g_pure 1 (i' := 48) (lv' := [some (vR 5)]) (st' := [vI (nI (1000 + 6))]) rfl ?_
    exact g_iret rfl (Or.inl ⟨by rw [e]; decide, by rw [e]⟩)
  have n31 := dcN_n.mp n31
  refine g_pure 3 (i' := 52) (lv' := [some (vR 5)]) (st' := [vS 32, vR 1]) rfl ?_
  refine g_cV1 rfl (args := [vR 1, vS 32]) (rest := []) rfl rfl rfl (s_74 (d := d) (by decide) hT) ?_
  refine g_if1 (i' := 60) (P := dcN (isW T n k (am_SL 32)) = true) rfl rfl g_neB (fun h => ?_) (fun h => ?_)
  · have h := dcN_i.mp h
    have e : ptW T n k = 7 := by unfold ptW; rw [sel_f n25, sel_f n26, sel_f n27, sel_f n28, sel_f n29, sel_f n30, sel_f n31, sel_t h]
    refine g_pure 1 (i' := 61) (lv' := [some (vR 5)]) (st' := [vI (nI (1000 + 7))]) rfl ?_
    exact g_iret rfl (Or.inl ⟨by rw [e]; decide, by rw [e]⟩)
  · have h := dcN_n.mp h
    have e : ptW T n k = 8 := by unfold ptW; rw [sel_f n25, sel_f n26, sel_f n27, sel_f n28, sel_f n29, sel_f n30, sel_f n31, sel_f h]
    refine g_pure 4 (i' := 58) (lv' := [some (vR 5)]) (st' := [vR 1, vR 1]) rfl ?_
    refine g_cV1 rfl (args := [vR 1]) (rest := [vR 1]) rfl rfl rfl (s_76 (d := d) hT) ?_
    exact g_cVxE rfl (args := [vR 1, vI (nI (spK T n k))]) (rest := []) rfl rfl rfl (s_75 (d := d)) (fun s hs => Or.inr ⟨by rw [e]; decide, s, hs, rfl⟩)
theorem s_54a {X : Nat × (Nat → Int32)} {d : Nat} {p : Nat → Nat} {sg : Mg} {T : Nat → Int32} {n k : Nat} (hT : CT T n k sg) (c : ptW T n k < 8) : gF X (d + 2) 54 [vR 5] p sg (fun r => r = gRv p sg (nI (1000 + ptW T n k))) := gF_mono (s_54 hT) (fun r hr => hr.elim (fun g => g.2) (fun g => absurd c g.1))
theorem s_54b {X : Nat × (Nat → Int32)} {d : Nat} {p : Nat → Nat} {sg : Mg} {T : Nat → Int32} {n k : Nat} (hT : CT T n k sg) (c : ¬ ptW T n k < 8) : gF X (d + 2) 54 [vR 5] p sg (fun r => ∃ s, CF (spK T n k) sg s ∧ r = gRx p s 0) := gF_mono (s_54 hT) (fun r hr => hr.elim (fun g => absurd g.1 c) (fun g => g.2))
theorem cd10 {v : Nat} : nI v = cdL (10, v) := rfl
theorem cdp {i : Nat} (h : i < 8) : nI (1000 + i) = cdL (i, 0) := by
  have : ∀ i, i < 8 → nI (1000 + i) = cdL (i, 0) := by decide +kernel
  exact this i h
