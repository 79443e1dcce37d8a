/-! COUNTRY: the readers of numbers, in the class (made by wip/whole/gen89zm.py) -/
/-- but for the tape and the spare world nothing changes -/
def FRc (sg s : Mg) : Prop := (∀ c, c ≠ 1 → (c < 300 ∨ 370 ≤ c ∨ (308 ≤ c ∧ c < 314)) → s c = sg c) ∧ ∀ f, f ≠ 2 → f ≠ 3 → f ≠ 4 → s 1 f = sg 1 f
theorem FRc.rf (sg : Mg) : FRc sg sg := ⟨fun _ _ _ => rfl, fun _ _ _ _ => rfl⟩
theorem FRc.mu {sg s : Mg} {a i : Nat} {x : Int32} (h : FRc sg s) (ha : 300 ≤ a ∧ a < 370 ∧ (a < 308 ∨ 314 ≤ a)) : FRc sg (mu s a i x) := ⟨fun c c1 c2 => by rw [mu_ne (by omega)]; exact h.1 c c1 c2, fun f f2 f3 f4 => by rw [mu_ne (by omega)]; exact h.2 f f2 f3 f4⟩
theorem FRc.cn {sg s s' : Mg} (h : FRc sg s) (g : CN s s') : FRc sg s' := ⟨fun c c1 c2 => (g.1 c c1).trans (h.1 c c1 c2), fun f f2 f3 f4 => (g.2 f f3 f4).trans (h.2 f f2 f3 f4)⟩
theorem FRc.tr {sg s s' : Mg} (h : FRc sg s) (g : FRc s s') : FRc sg s' := ⟨fun c c1 c2 => (g.1 c c1 c2).trans (h.1 c c1 c2), fun f f2 f3 f4 => (g.2 f f2 f3 f4).trans (h.2 f f2 f3 f4)⟩
/-- it failed, at f -/
def LF (f : Nat) (sg : Mg) (p : Nat → Nat) (r : am_R) : Prop := ∃ s, (∀ c, c ≠ 1 → (c < 300 ∨ 370 ≤ c ∨ (308 ≤ c ∧ c < 314)) → s c = sg c) ∧ s 1 1 = sg 1 1 ∧ s 1 5 = nI f ∧ r = gRx p s 0
theorem LF.of {f : Nat} {sg s s' : Mg} {p : Nat → Nat} (h : FRc sg s) (g : CF f s s') : LF f sg p (gRx p s' 0) := ⟨s', fun c c1 c2 => (g.1 c c1).trans (h.1 c c1 c2), g.2.1.trans (h.2 1 (by decide) (by decide) (by decide)), g.2.2, rfl⟩
theorem s_76 {X : Nat × (Nat → Int32)} {d : Nat} {p : Nat → Nat} {sg : Mg} {T : Nat → Int32} {n k : Nat} (h : CT T n k sg) : gF X (d + 1) 76 [vR 1] p sg (fun r => r = gRv p sg (nI (spK T n k))) := by
  refine g_in (cd := k_76) (nL := 1) (rc := 9) rfl (g_A (a := 1) (kd := 0) (n := 8) rfl (by decide)) (g_c1 rfl) ?_
  show gW X d k_76 0 [some (vR 1)] [] p sg _
  refine g_pure 1 (i' := 1) (lv' := [some (vR 1)]) (st' := [vR 1]) rfl ?_
  refine g_getI rfl (g_A (a := 1) (kd := 0) (n := 8) rfl (by decide)) (show _ = nI (spK T n k) from h.2.2.2.1) ?_
  exact g_iret rfl rfl
theorem e_15 {X : Nat × (Nat → Int32)} {d : Nat} {p : Nat → Nat} {sg : Mg} {kd m : Nat} {Q : am_R → Prop} (hc : sg 303 kd = nI m) (hk : kd < 6) (hf : gF X (d + 2) 77 [vR 1, vI 4, vI 0, vI (nI m - 1)] p sg Q) (h1 : ∀ r, Q r → (∃ s v, r = gRv p s v) ∨ ∃ s, r = gRx p s 0) : gF X (d + 3) 15 [vR 4, vI (nI kd)] p sg Q := by
  refine g_in (cd := k_15) (nL := 2) (rc := 2) rfl (g_A (a := 4) (kd := 0) (n := 1) rfl (by decide)) (g_c1 rfl) ?_
  show gW X (d + 2) k_15 0 [some (vR 4), some (vI (nI kd))] [] p sg _
  refine g_pure 8 (i' := 8) (lv' := [some (vR 4), some (vI (nI kd))]) (st' := [vI (nI kd), vR 303, vI 0, vI 4, vR 1]) rfl ?_
  refine g_ald (k := kd) rfl (g_A (a := 303) (kd := 1) (n := 6) rfl (by decide)) (by decide) rfl hk (show _ = nI m from hc) ?_
  refine g_pure 2 (i' := 11) (lv' := [some (vR 4), some (vI (nI kd))]) (st' := [vI (nI m - 1), vI 0, vI 4, vR 1]) rfl ?_
  refine g_calV rfl (args := [vR 1, vI 4, vI 0, vI (nI m - 1)]) (rest := []) rfl rfl (Nat.zero_le _) hf (fun q hq => ?_)
  rcases h1 q hq with ⟨s, v, rfl⟩ | ⟨s, rfl⟩
  · exact gK_v (g_iret rfl hq)
  · exact gK_x hq
theorem s_15a {X : Nat × (Nat → Int32)} {d : Nat} {p : Nat → Nat} {sg : Mg} {T : Nat → Int32} {n k m : Nat} {kd : Nat} (h : CT T n k sg) (hc : sg 303 kd = nI m) (hk : kd < 6) (hm : m ≤ 100000) (c : tkP T n k 4 0 m) : gF X (d + 3) 15 [vR 4, vI (nI kd)] p sg (fun r => ∃ s, (CT T n (nxK T n k) s ∧ CN sg s) ∧ r = gRv p s (nI (numK T n k))) := e_15 hc hk (s_77a (lo := 0) (g := 4) h (by decide) (by decide) hm rfl c) (fun r ⟨s, _, hr⟩ => Or.inl ⟨s, _, hr⟩)
theorem s_15b {X : Nat × (Nat → Int32)} {d : Nat} {p : Nat → Nat} {sg : Mg} {T : Nat → Int32} {n k m : Nat} {kd : Nat} (h : CT T n k sg) (hc : sg 303 kd = nI m) (hk : kd < 6) (hm : m ≤ 100000) (c : ¬ tkP T n k 4 0 m) : gF X (d + 3) 15 [vR 4, vI (nI kd)] p sg (fun r => ∃ s, CF (spK T n k) sg s ∧ r = gRx p s 0) := e_15 hc hk (s_77b (lo := 0) (g := 4) h (by decide) (by decide) hm rfl c) (fun r ⟨s, _, hr⟩ => Or.inr ⟨s, hr⟩)
theorem e_13 {X : Nat × (Nat → Int32)} {d : Nat} {p : Nat → Nat} {sg : Mg} {m : Nat} {Q : am_R → Prop} (hc : sg 302 5 = nI m) (hf : gF X (d + 2) 77 [vR 1, vI 4, vI 0, vI (nI m - 1)] p sg Q) (h1 : ∀ r, Q r → (∃ s v, r = gRv p s v) ∨ ∃ s, r = gRx p s 0) : gF X (d + 3) 13 [vR 4] p sg Q := by
  refine g_in (cd := k_13) (nL := 1) (rc := 2) rfl (g_A (a := 4) (kd := 0) (n := 1) rfl (by decide)) (g_c1 rfl) ?_
  show gW X (d + 2) k_13 0 [some (vR 4)] [] p sg _
  refine g_pure 6 (i' := 6) (lv' := [some (vR 4)]) (st' := [vR 302, vI 0, vI 4, vR 1]) rfl ?_
  refine g_getI rfl (g_A (a := 302) (kd := 0) (n := 3) rfl (by decide)) (show _ = nI m from hc) ?_
  refine g_pure 2 (i' := 9) (lv' := [some (vR 4)]) (st' := [vI (nI m - 1), vI 0, vI 4, vR 1]) rfl ?_
  refine g_calV rfl (args := [vR 1, vI 4, vI 0, vI (nI m - 1)]) (rest := []) rfl rfl (Nat.zero_le _) hf (fun q hq => ?_)
  rcases h1 q hq with ⟨s, v, rfl⟩ | ⟨s, rfl⟩
  · exact gK_v (g_iret rfl hq)
  · exact gK_x hq
theorem s_13a {X : Nat × (Nat → Int32)} {d : Nat} {p : Nat → Nat} {sg : Mg} {T : Nat → Int32} {n k m : Nat} (h : CT T n k sg) (hc : sg 302 5 = nI m) (hm : m ≤ 100000) (c : tkP T n k 4 0 m) : gF X (d + 3) 13 [vR 4] p sg (fun r => ∃ s, (CT T n (nxK T n k) s ∧ CN sg s) ∧ r = gRv p s (nI (numK T n k))) := e_13 hc (s_77a (lo := 0) (g := 4) h (by decide) (by decide) hm rfl c) (fun r ⟨s, _, hr⟩ => Or.inl ⟨s, _, hr⟩)
theorem s_13b {X : Nat × (Nat → Int32)} {d : Nat} {p : Nat → Nat} {sg : Mg} {T : Nat → Int32} {n k m : Nat} (h : CT T n k sg) (hc : sg 302 5 = nI m) (hm : m ≤ 100000) (c : ¬ tkP T n k 4 0 m) : gF X (d + 3) 13 [vR 4] p sg (fun r => ∃ s, CF (spK T n k) sg s ∧ r = gRx p s 0) := e_13 hc (s_77b (lo := 0) (g := 4) h (by decide) (by decide) hm rfl c) (fun r ⟨s, _, hr⟩ => Or.inr ⟨s, hr⟩)
/-- a number of a kind, but not this one -/
def tkN (T : Nat → Int32) (n k m x : Nat) : Prop := tkP T n k 4 0 m ∧ numK T n k ≠ x
theorem s_18 {X : Nat × (Nat → Int32)} {d : Nat} {p : Nat → Nat} {sg : Mg} {T : Nat → Int32} {n k m : Nat} {kd x : Nat} (h : CT T n k sg) (hc : sg 303 kd = nI m) (hk : kd < 6) (hm : m ≤ 9999) (hx : x ≤ 9999) : gF X (d + 4) 18 [vR 4, vI (nI kd), vI (nI x)] p sg (fun r => (tkN T n k m x ∧ ∃ s, (CT T n (nxK T n k) s ∧ CN sg s) ∧ r = gRv p s (nI (numK T n k))) ∨ (¬ tkN T n k m x ∧ ∃ s, CF (spK T n k) sg s ∧ r = gRx p s 0)) := by
  refine g_in (cd := k_18) (nL := 5) (rc := 2) rfl (g_A (a := 4) (kd := 0) (n := 1) rfl (by decide)) (g_c1 rfl) ?_
  show gW X (d + 3) k_18 0 [some (vR 4), some (vI (nI kd)), some (vI (nI x)), none, none] [] p sg _
  refine g_pure 2 (i' := 2) (lv' := [some (vR 4), some (vI (nI kd)), some (vI (nI x)), none, none]) (st' := [vR 1]) rfl ?_
  refine g_cV1 rfl (args := [vR 1]) (rest := []) rfl rfl rfl (s_76 (d := d + 2) h) ?_
  refine g_pure 3 (i' := 6) (lv' := [some (vR 4), some (vI (nI kd)), some (vI (nI x)), some (vI (nI (spK T n k))), none]) (st' := [vI (nI kd), vR 4]) rfl ?_
  by_cases c : tkP T n k 4 0 m
  · refine g_cV1E (p' := p) rfl (args := [vR 4, vI (nI kd)]) (rest := []) rfl rfl rfl (s_15a (d := d) h hc hk (by omega) c) (fun s hs => ?_)
    have hlt : numK T n k < m := c.2.2.2
    refine g_pure 3 (i' := 10) (lv' := [some (vR 4), some (vI (nI kd)), some (vI (nI x)), some (vI (nI (spK T n k))), some (vI (nI (numK T n k)))]) (st' := [vI (nI x), vI (nI (numK T n k))]) rfl ?_
    refine g_if2 (i' := 15) (P := ¬ numK T n k = x) rfl rfl (not_congr (nI_eq (by omega) (by omega))) (fun hne => ?_) (fun he => ?_)
    · refine g_pure 1 (i' := 16) (lv' := [some (vR 4), some (vI (nI kd)), some (vI (nI x)), some (vI (nI (spK T n k))), some (vI (nI (numK T n k)))]) (st' := [vI (nI (numK T n k))]) rfl ?_
      exact g_iret rfl (Or.inl ⟨⟨c, hne⟩, s, hs, rfl⟩)
    · refine g_pure 3 (i' := 14) (lv' := [some (vR 4), some (vI (nI kd)), some (vI (nI x)), some (vI (nI (spK T n k))), some (vI (nI (numK T n k)))]) (st' := [vI (nI (spK T n k)), vR 1]) rfl ?_
      exact g_cVxE rfl (args := [vR 1, vI (nI (spK T n k))]) (rest := []) rfl rfl rfl (s_75 (d := d + 2)) (fun s2 hs2 => Or.inr ⟨fun g => he g.2, s2, hs2.cn hs.2, rfl⟩)
  · exact g_cVxE rfl (args := [vR 4, vI (nI kd)]) (rest := []) rfl rfl rfl (s_15b (d := d) h hc hk (by omega) c) (fun s hs => Or.inr ⟨fun g => c g.1, s, hs, rfl⟩)
theorem s_18a {X : Nat × (Nat → Int32)} {d : Nat} {p : Nat → Nat} {sg : Mg} {T : Nat → Int32} {n k m : Nat} {kd x : Nat} (h : CT T n k sg) (hc : sg 303 kd = nI m) (hk : kd < 6) (hm : m ≤ 9999) (hx : x ≤ 9999) (c : tkN T n k m x) : gF X (d + 4) 18 [vR 4, vI (nI kd), vI (nI x)] p sg (fun r => ∃ s, (CT T n (nxK T n k) s ∧ CN sg s) ∧ r = gRv p s (nI (numK T n k))) := gF_mono (s_18 h hc hk hm hx) (fun r hr => hr.elim (fun g => g.2) (fun g => absurd c g.1))
theorem s_18b {X : Nat × (Nat → Int32)} {d : Nat} {p : Nat → Nat} {sg : Mg} {T : Nat → Int32} {n k m : Nat} {kd x : Nat} (h : CT T n k sg) (hc : sg 303 kd = nI m) (hk : kd < 6) (hm : m ≤ 9999) (hx : x ≤ 9999) (c : ¬ tkN T n k m x) : gF X (d + 4) 18 [vR 4, vI (nI kd), vI (nI x)] p sg (fun r => ∃ s, CF (spK T n k) sg s ∧ r = gRx p s 0) := gF_mono (s_18 h hc hk hm hx) (fun r hr => hr.elim (fun g => absurd g.1 c) (fun g => g.2))
/-- a day that isn't among these -/
def tkD (T : Nat → Int32) (n k m w : Nat) : Prop := tkP T n k 4 0 m ∧ w.testBit (numK T n k) = false
theorem s_12 {X : Nat × (Nat → Int32)} {d : Nat} {p : Nat → Nat} {sg : Mg} {T : Nat → Int32} {n k m : Nat} {w : Nat} (h : CT T n k sg) (hc : sg 302 5 = nI m) (hm : m ≤ 16) (hw : w < 65536) : gF X (d + 4) 12 [vR 4, vI (nI w)] p sg (fun r => (tkD T n k m w ∧ ∃ s, (CT T n (nxK T n k) s ∧ CN sg s) ∧ r = gRv p s (nI (numK T n k))) ∨ (¬ tkD T n k m w ∧ ∃ s, CF (spK T n k) sg s ∧ r = gRx p s 0)) := by
  refine g_in (cd := k_12) (nL := 4) (rc := 2) rfl (g_A (a := 4) (kd := 0) (n := 1) rfl (by decide)) (g_c1 rfl) ?_
  show gW X (d + 3) k_12 0 [some (vR 4), some (vI (nI w)), none, none] [] p sg _
  refine g_pure 2 (i' := 2) (lv' := [some (vR 4), some (vI (nI w)), none, none]) (st' := [vR 1]) rfl ?_
  refine g_cV1 rfl (args := [vR 1]) (rest := []) rfl rfl rfl (s_76 (d := d + 2) h) ?_
  refine g_pure 2 (i' := 5) (lv' := [some (vR 4), some (vI (nI w)), some (vI (nI (spK T n k))), none]) (st' := [vR 4]) rfl ?_
  by_cases c : tkP T n k 4 0 m
  · refine g_cV1E (p' := p) rfl (args := [vR 4]) (rest := []) rfl rfl rfl (s_13a (d := d) h hc (by omega) c) (fun s hs => ?_)
    have hlt : numK T n k < m := c.2.2.2
    refine g_pure 6 (i' := 12) (lv' := [some (vR 4), some (vI (nI w)), some (vI (nI (spK T n k))), some (vI (nI (numK T n k)))]) (st' := [vI ((nI w >>> (nI (numK T n k) &&& 31)) &&& 1)]) rfl ?_
    refine g_if1 (i' := 17) (P := w.testBit (numK T n k) = false) rfl rfl (nI_bit0 (by omega) (by omega)) (fun hne => ?_) (fun he => ?_)
    · refine g_pure 1 (i' := 18) (lv' := [some (vR 4), some (vI (nI w)), some (vI (nI (spK T n k))), some (vI (nI (numK T n k)))]) (st' := [vI (nI (numK T n k))]) rfl ?_
      exact g_iret rfl (Or.inl ⟨⟨c, hne⟩, s, hs, rfl⟩)
    · refine g_pure 3 (i' := 16) (lv' := [some (vR 4), some (vI (nI w)), some (vI (nI (spK T n k))), some (vI (nI (numK T n k)))]) (st' := [vI (nI (spK T n k)), vR 1]) rfl ?_
      exact g_cVxE rfl (args := [vR 1, vI (nI (spK T n k))]) (rest := []) rfl rfl rfl (s_75 (d := d + 2)) (fun s2 hs2 => Or.inr ⟨fun g => he g.2, s2, hs2.cn hs.2, rfl⟩)
  · exact g_cVxE rfl (args := [vR 4]) (rest := []) rfl rfl rfl (s_13b (d := d) h hc (by omega) c) (fun s hs => Or.inr ⟨fun g => c g.1, s, hs, rfl⟩)
theorem s_12a {X : Nat × (Nat → Int32)} {d : Nat} {p : Nat → Nat} {sg : Mg} {T : Nat → Int32} {n k m : Nat} {w : Nat} (h : CT T n k sg) (hc : sg 302 5 = nI m) (hm : m ≤ 16) (hw : w < 65536) (c : tkD T n k m w) : gF X (d + 4) 12 [vR 4, vI (nI w)] p sg (fun r => ∃ s, (CT T n (nxK T n k) s ∧ CN sg s) ∧ r = gRv p s (nI (numK T n k))) := gF_mono (s_12 h hc hm hw) (fun r hr => hr.elim (fun g => g.2) (fun g => absurd c g.1))
theorem s_12b {X : Nat × (Nat → Int32)} {d : Nat} {p : Nat → Nat} {sg : Mg} {T : Nat → Int32} {n k m : Nat} {w : Nat} (h : CT T n k sg) (hc : sg 302 5 = nI m) (hm : m ≤ 16) (hw : w < 65536) (c : ¬ tkD T n k m w) : gF X (d + 4) 12 [vR 4, vI (nI w)] p sg (fun r => ∃ s, CF (spK T n k) sg s ∧ r = gRx p s 0) := gF_mono (s_12 h hc hm hw) (fun r hr => hr.elim (fun g => absurd g.1 c) (fun g => g.2))
theorem tkD_N {T : Nat → Int32} {n k m x : Nat} : tkD T n k m (2 ^ x) ↔ tkN T n k m x := by
  unfold tkD tkN
  rw [Nat.testBit_two_pow, decide_eq_false_iff_not]
  exact ⟨fun h => ⟨h.1, fun e => h.2 e.symm⟩, fun h => ⟨h.1, fun e => h.2 e.symm⟩⟩
theorem s_12pa {X : Nat × (Nat → Int32)} {d : Nat} {p : Nat → Nat} {sg : Mg} {T : Nat → Int32} {n k m : Nat} {x : Nat} (h : CT T n k sg) (hc : sg 302 5 = nI m) (hm : m ≤ 16) (hx : x ≤ 15) (c : tkN T n k m x) : gF X (d + 4) 12 [vR 4, vI (1 <<< (nI x &&& 31))] p sg (fun r => ∃ s, (CT T n (nxK T n k) s ∧ CN sg s) ∧ r = gRv p s (nI (numK T n k))) := by
  rw [nI_shl1 (by omega)]
  exact s_12a h hc hm (show 2 ^ x < 2 ^ 16 from Nat.pow_lt_pow_right (by decide) (by omega)) (tkD_N.mpr c)
theorem s_12pb {X : Nat × (Nat → Int32)} {d : Nat} {p : Nat → Nat} {sg : Mg} {T : Nat → Int32} {n k m : Nat} {x : Nat} (h : CT T n k sg) (hc : sg 302 5 = nI m) (hm : m ≤ 16) (hx : x ≤ 15) (c : ¬ tkN T n k m x) : gF X (d + 4) 12 [vR 4, vI (1 <<< (nI x &&& 31))] p sg (fun r => ∃ s, CF (spK T n k) sg s ∧ r = gRx p s 0) := by
  rw [nI_shl1 (by omega)]
  exact s_12b h hc hm (show 2 ^ x < 2 ^ 16 from Nat.pow_lt_pow_right (by decide) (by omega)) (fun g => c (tkD_N.mp g))
theorem s_11 {X : Nat × (Nat → Int32)} {d : Nat} {p : Nat → Nat} {sg : Mg} {T : Nat → Int32} {n k m : Nat} {kd most : Nat} (h : CT T n k sg) (hc : sg 303 kd = nI m) (hk : kd < 6) (hm : m ≤ 9999) (hx : most ≤ 99) : gF X (d + 2) 11 [vR 4, vI (nI kd), vI (nI most)] p sg (fun r => (m < most ∧ ∃ s, (CT T n (nxK T n k) s ∧ CN sg s) ∧ r = gRv p s (nI m)) ∨ (¬ m < most ∧ ∃ s, CF (spK T n k) sg s ∧ r = gRx p s 0)) := by
  refine g_in (cd := k_11) (nL := 3) (rc := 2) rfl (g_A (a := 4) (kd := 0) (n := 1) rfl (by decide)) (g_c1 rfl) ?_
  show gW X (d + 1) k_11 0 [some (vR 4), some (vI (nI kd)), some (vI (nI most))] [] p sg _
  refine g_pure 4 (i' := 4) (lv' := [some (vR 4), some (vI (nI kd)), some (vI (nI most))]) (st' := [vI (nI kd), vR 303]) rfl ?_
  refine g_ald (k := kd) rfl (g_A (a := 303) (kd := 1) (n := 6) rfl (by decide)) (by decide) rfl hk (show _ = nI m from hc) ?_
  refine g_pure 1 (i' := 6) (lv' := [some (vR 4), some (vI (nI kd)), some (vI (nI most))]) (st' := [vI (nI most), vI (nI m)]) rfl ?_
  refine g_if2 (i' := 13) (P := m < most) rfl rfl (nI_ltI (by omega) (by omega)) (fun hlt => ?_) (fun hge => ?_)
  · refine g_pure 2 (i' := 15) (lv' := [some (vR 4), some (vI (nI kd)), some (vI (nI most))]) (st' := [vR 1]) rfl ?_
    refine g_cV0E (p' := p) rfl (args := [vR 1]) (rest := []) rfl rfl rfl (s_70 (d := d) h) (fun s hs => ?_)
    refine g_pure 4 (i' := 20) (lv' := [some (vR 4), some (vI (nI kd)), some (vI (nI most))]) (st' := [vI (nI kd), vR 303]) rfl ?_
    refine g_ald (k := kd) rfl (g_A (a := 303) (kd := 1) (n := 6) rfl (by decide)) (by decide) rfl hk (show _ = nI m from (by rw [hs.2.1 303 (by decide)]; exact hc)) ?_
    exact g_iret rfl (Or.inl ⟨hlt, s, hs, rfl⟩)
  · refine g_pure 4 (i' := 11) (lv' := [some (vR 4), some (vI (nI kd)), some (vI (nI most))]) (st' := [vR 1, vR 1]) rfl ?_
    refine g_cV1 rfl (args := [vR 1]) (rest := [vR 1]) rfl rfl rfl (s_76 (d := d) h) ?_
    exact g_cVxE rfl (args := [vR 1, vI (nI (spK T n k))]) (rest := []) rfl rfl rfl (s_75 (d := d)) (fun s hs => Or.inr ⟨hge, s, hs, rfl⟩)
theorem s_11a {X : Nat × (Nat → Int32)} {d : Nat} {p : Nat → Nat} {sg : Mg} {T : Nat → Int32} {n k m : Nat} {kd most : Nat} (h : CT T n k sg) (hc : sg 303 kd = nI m) (hk : kd < 6) (hm : m ≤ 9999) (hx : most ≤ 99) (c : m < most) : gF X (d + 2) 11 [vR 4, vI (nI kd), vI (nI most)] p sg (fun r => ∃ s, (CT T n (nxK T n k) s ∧ CN sg s) ∧ r = gRv p s (nI m)) := gF_mono (s_11 h hc hk hm hx) (fun r hr => hr.elim (fun g => g.2) (fun g => absurd c g.1))
theorem s_11b {X : Nat × (Nat → Int32)} {d : Nat} {p : Nat → Nat} {sg : Mg} {T : Nat → Int32} {n k m : Nat} {kd most : Nat} (h : CT T n k sg) (hc : sg 303 kd = nI m) (hk : kd < 6) (hm : m ≤ 9999) (hx : most ≤ 99) (c : ¬ m < most) : gF X (d + 2) 11 [vR 4, vI (nI kd), vI (nI most)] p sg (fun r => ∃ s, CF (spK T n k) sg s ∧ r = gRx p s 0) := gF_mono (s_11 h hc hk hm hx) (fun r hr => hr.elim (fun g => absurd g.1 c) (fun g => g.2))
