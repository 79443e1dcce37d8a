/-! LAW: lines, in the class (made by wip/whole/gen89zzg.py) -/
theorem b_50_0 {X : Nat × (Nat → Int32)} {d : Nat} {p : Nat → Nat} {sg : Mg} {Q : am_R → Prop} {T : Nat → Int32} {tn tk : Nat} {tE : LE} (hT : CT T tn tk sg) (hC : LCd tE sg) {sg0 : Mg} (hF : FL sg0 sg)
    (o1 : (¬ (dcN (isW T tn tk (am_SL 17)) = true)) → (¬ (dcN (isW T tn tk (am_SL 18)) = true)) → (dcN (isW T tn tk (am_SL 19)) = true) → ∀ s4 : Mg, (CT T tn (nxK T tn tk) s4 ∧ CN sg s4) → CT T tn (nxK T tn tk) s4 → LCd tE s4 → FL sg0 s4 → Q (gRv p s4 2))
    (o2 : (¬ (dcN (isW T tn tk (am_SL 17)) = true)) → (¬ (dcN (isW T tn tk (am_SL 18)) = true)) → (¬ (dcN (isW T tn tk (am_SL 19)) = true)) → ∀ s5 : Mg, (CF (spK T tn tk) sg s5) → CT T tn tk sg → LCd tE sg → FL sg0 sg → Q (gRx p s5 0))
    (o3 : (¬ (dcN (isW T tn tk (am_SL 17)) = true)) → ((dcN (isW T tn tk (am_SL 18)) = true)) → ∀ s6 : Mg, (CT T tn (nxK T tn tk) s6 ∧ CN sg s6) → CT T tn (nxK T tn tk) s6 → LCd tE s6 → FL sg0 s6 → Q (gRv p s6 1))
    (o4 : ((dcN (isW T tn tk (am_SL 17)) = true)) → ∀ s7 : Mg, (CT T tn (nxK T tn tk) s7 ∧ CN sg s7) → CT T tn (nxK T tn tk) s7 → LCd tE s7 → FL sg0 s7 → Q (gRv p s7 0)) :
    gW X (d + 1) k_50 0 [some (vR 5), none] [] p sg Q := by
  refine g_pure 5 (i' := 5) (lv' := [some (vR 5), some (vI 2)]) (st' := [vS 17, vR 1]) rfl ?_
  refine g_cV1 rfl (args := [vR 1, vS 17]) (rest := []) rfl rfl rfl (s_74 (d := d) (by decide) hT) ?_
  refine g_if1 (i' := 10) (P := ¬ (dcN (isW T tn tk (am_SL 17)) = true)) rfl rfl g_eqB (fun h1 => ?_) (fun h1 => ?_)
  · refine g_pure 3 (i' := 13) (lv' := [some (vR 5), some (vI 2)]) (st' := [vS 18, vR 1]) rfl ?_
    refine g_cV1 rfl (args := [vR 1, vS 18]) (rest := []) rfl rfl rfl (s_74 (d := d) (by decide) hT) ?_
    refine g_if1 (i' := 18) (P := ¬ (dcN (isW T tn tk (am_SL 18)) = true)) rfl rfl g_eqB (fun h2 => ?_) (fun h2 => ?_)
    · refine g_pure 3 (i' := 21) (lv' := [some (vR 5), some (vI 2)]) (st' := [vS 19, vR 1]) rfl ?_
      refine g_cV1 rfl (args := [vR 1, vS 19]) (rest := []) rfl rfl rfl (s_74 (d := d) (by decide) hT) ?_
      refine g_if1 (i' := 29) (P := dcN (isW T tn tk (am_SL 19)) = true) rfl rfl g_neB (fun h3 => ?_) (fun h3 => ?_)
      · refine g_pure 2 (i' := 31) (lv' := [some (vR 5), some (vI 2)]) (st' := [vR 1]) rfl ?_
        refine g_cV0E rfl (args := [vR 1]) (rest := []) rfl rfl rfl (s_70 (d := d) hT) (fun s4 es4 => ?_)
        have hTs4 := es4.1
        have hFs4 := hF.cn es4.2
        have hCs4 : LCd tE s4 := hC.cn es4.2
        refine g_pure 1 (i' := 33) (lv' := [some (vR 5), some (vI 2)]) (st' := [vI 2]) rfl ?_
        refine g_iret rfl ?_
        exact o1 h1 h2 h3 s4 es4 hTs4 hCs4 hFs4
      · refine g_pure 4 (i' := 27) (lv' := [some (vR 5), some (vI 2)]) (st' := [vR 1, vR 1]) rfl ?_
        refine g_cV1 rfl (args := [vR 1]) (rest := [vR 1]) rfl rfl rfl (s_76 (d := d) hT) ?_
        refine g_cVxE rfl (args := [vR 1, vI (nI (spK T tn tk))]) (rest := []) rfl rfl rfl (s_75 (d := d) ) (fun s5 es5 => ?_)
        exact o2 h1 h2 h3 s5 es5 hT hC hF
    · have h2 := Classical.not_not.mp h2
      refine g_pure 5 (i' := 31) (lv' := [some (vR 5), some (vI 1)]) (st' := [vR 1]) rfl ?_
      refine g_cV0E rfl (args := [vR 1]) (rest := []) rfl rfl rfl (s_70 (d := d) hT) (fun s6 es6 => ?_)
      have hTs6 := es6.1
      have hFs6 := hF.cn es6.2
      have hCs6 : LCd tE s6 := hC.cn es6.2
      refine g_pure 1 (i' := 33) (lv' := [some (vR 5), some (vI 1)]) (st' := [vI 1]) rfl ?_
      refine g_iret rfl ?_
      exact o3 h1 h2 s6 es6 hTs6 hCs6 hFs6
  · have h1 := Classical.not_not.mp h1
    refine g_pure 5 (i' := 31) (lv' := [some (vR 5), some (vI 0)]) (st' := [vR 1]) rfl ?_
    refine g_cV0E rfl (args := [vR 1]) (rest := []) rfl rfl rfl (s_70 (d := d) hT) (fun s7 es7 => ?_)
    have hTs7 := es7.1
    have hFs7 := hF.cn es7.2
    have hCs7 : LCd tE s7 := hC.cn es7.2
    refine g_pure 1 (i' := 33) (lv' := [some (vR 5), some (vI 0)]) (st' := [vI 0]) rfl ?_
    refine g_iret rfl ?_
    exact o4 h1 s7 es7 hTs7 hCs7 hFs7

theorem b_43_0 {X : Nat × (Nat → Int32)} {d : Nat} {p : Nat → Nat} {sg : Mg} {Q : am_R → Prop} {n : Nat} (u_n : n ≤ 12) (kn_308_6 : sg 308 6 = nI n) {m : Nat} (u_m : m ≤ 400) (kn_308_5 : sg 308 5 = nI m) {kd : Int32} {gn : Int32}
    (o1 : (12 ≤ n) → Q (gR0 p sg))
    (o2 : (¬ (12 ≤ n)) → ∀ s3 : Mg, s3 = mu sg 309 n kd → ∀ s4 : Mg, s4 = mu s3 310 n gn → ∀ s5 : Mg, s5 = mu s4 311 n (nI m) → ∀ s6 : Mg, s6 = mu s5 308 6 (nI (n + 1)) → Q (gR0 p s6)) :
    gW X (d) k_43 0 [some (vR 308), some (vI kd), some (vI gn)] [] p sg Q := by
  refine g_pure 1 (i' := 1) (lv' := [some (vR 308), some (vI kd), some (vI gn)]) (st' := [vR 308]) rfl ?_
  refine g_getI rfl (g_A (a := 308) (kd := 0) (n := 4) rfl (by decide)) (show _ = nI n from kn_308_6) ?_
  refine g_if1 (i' := 32) (P := n < 0) rfl rfl (g_ltN (show nI n = nI n from (rfl : nI n = nI n)) (show 0 = nI 0 from (show (0 : Int32) = nI 0 from rfl)) (by omega) (by omega)) (fun h1 => absurd h1 (by omega)) (fun _ => ?_)
  refine g_pure 1 (i' := 4) (lv' := [some (vR 308), some (vI kd), some (vI gn)]) (st' := [vR 308]) rfl ?_
  refine g_getI rfl (g_A (a := 308) (kd := 0) (n := 4) rfl (by decide)) (show _ = nI n from kn_308_6) ?_
  refine g_pure 1 (i' := 6) (lv' := [some (vR 308), some (vI kd), some (vI gn)]) (st' := [vI 12, vI (nI n)]) rfl ?_
  refine g_if2 (i' := 32) (P := 12 ≤ n) rfl rfl (g_geN (show nI n = nI n from (rfl : nI n = nI n)) (show 12 = nI 12 from (show (12 : Int32) = nI 12 from rfl)) (by omega) (by omega)) (fun h2 => ?_) (fun h2 => ?_)
  · refine g_vret rfl ?_
    exact o1 h2
  · refine g_pure 3 (i' := 10) (lv' := [some (vR 308), some (vI kd), some (vI gn)]) (st' := [vR 308, vR 309]) rfl ?_
    refine g_getI rfl (g_A (a := 308) (kd := 0) (n := 4) rfl (by decide)) (show _ = nI n from kn_308_6) ?_
    refine g_pure 1 (i' := 12) (lv' := [some (vR 308), some (vI kd), some (vI gn)]) (st' := [vI kd, vI (nI n), vR 309]) rfl ?_
    refine g_ast rfl (g_A (a := 309) (kd := 1) (n := 12) rfl (by decide)) (by decide) (show nI n = nI n from (rfl : nI n = nI n)) (by omega) ?_
    refine g_setv (fun s3 es3 => ?_)
    have kns3_308_6 : s3 308 6 = nI n := by rw [es3, mu_ne (by decide)]; exact kn_308_6
    have kns3_308_5 : s3 308 5 = nI m := by rw [es3, mu_ne (by decide)]; exact kn_308_5
    refine g_pure 3 (i' := 16) (lv' := [some (vR 308), some (vI kd), some (vI gn)]) (st' := [vR 308, vR 310]) rfl ?_
    refine g_getI rfl (g_A (a := 308) (kd := 0) (n := 4) rfl (by decide)) (show _ = nI n from kns3_308_6) ?_
    refine g_pure 1 (i' := 18) (lv' := [some (vR 308), some (vI kd), some (vI gn)]) (st' := [vI gn, vI (nI n), vR 310]) rfl ?_
    refine g_ast rfl (g_A (a := 310) (kd := 1) (n := 12) rfl (by decide)) (by decide) (show nI n = nI n from (rfl : nI n = nI n)) (by omega) ?_
    refine g_setv (fun s4 es4 => ?_)
    have kns4_308_6 : s4 308 6 = nI n := by rw [es4, mu_ne (by decide)]; exact kns3_308_6
    have kns4_308_5 : s4 308 5 = nI m := by rw [es4, mu_ne (by decide)]; exact kns3_308_5
    refine g_pure 3 (i' := 22) (lv' := [some (vR 308), some (vI kd), some (vI gn)]) (st' := [vR 308, vR 311]) rfl ?_
    refine g_getI rfl (g_A (a := 308) (kd := 0) (n := 4) rfl (by decide)) (show _ = nI n from kns4_308_6) ?_
    refine g_pure 1 (i' := 24) (lv' := [some (vR 308), some (vI kd), some (vI gn)]) (st' := [vR 308, vI (nI n), vR 311]) rfl ?_
    refine g_getI rfl (g_A (a := 308) (kd := 0) (n := 4) rfl (by decide)) (show _ = nI m from kns4_308_5) ?_
    refine g_ast rfl (g_A (a := 311) (kd := 1) (n := 12) rfl (by decide)) (by decide) (show nI n = nI n from (rfl : nI n = nI n)) (by omega) ?_
    refine g_setv (fun s5 es5 => ?_)
    have kns5_308_6 : s5 308 6 = nI n := by rw [es5, mu_ne (by decide)]; exact kns4_308_6
    have kns5_308_5 : s5 308 5 = nI m := by rw [es5, mu_ne (by decide)]; exact kns4_308_5
    refine g_pure 2 (i' := 28) (lv' := [some (vR 308), some (vI kd), some (vI gn)]) (st' := [vR 308, vR 308]) rfl ?_
    refine g_getI rfl (g_A (a := 308) (kd := 0) (n := 4) rfl (by decide)) (show _ = nI n from kns5_308_6) ?_
    refine g_pure 2 (i' := 31) (lv' := [some (vR 308), some (vI kd), some (vI gn)]) (st' := [vI (nI n + 1), vR 308]) rfl ?_
    refine gW_eq (lv' := [some (vR 308), some (vI kd), some (vI gn)]) (st' := [vI (nI (n + 1)), vR 308]) rfl (by rw [(show (nI n + 1) = nI (n + 1) from ((g_add (rfl : nI n = nI n) (show (1 : Int32) = nI 1 from rfl))).trans (congrArg nI (by omega)))]) rfl ?_
    refine g_putI rfl (g_A (a := 308) (kd := 0) (n := 4) rfl (by decide)) ?_
    refine g_setv (fun s6 es6 => ?_)
    have kns6_308_6 : s6 308 6 = nI (n + 1) := by rw [es6]; exact mu_self.trans ((rfl : nI (n + 1) = nI (n + 1)))
    have kns6_308_5 : s6 308 5 = nI m := by rw [es6, mu_idx (by decide)]; exact kns5_308_5
    refine g_vret rfl ?_
    exact o2 h2 s3 es3 s4 es4 s5 es5 s6 es6

section
variable (T : Nat → Int32) (n : Nat)
/-- bar, hush, earn; 3: none -/
noncomputable def kdW (k : Nat) : Nat := sel (isW T n k (am_SL 17)) 0 (sel (isW T n k (am_SL 18)) 1 (sel (isW T n k (am_SL 19)) 2 3))
abbrev LLn : Type := List (Nat × Nat × Nat)
/-- behind the kind: what is earned -/
noncomputable def plGain (k : Nat) (kd : Nat) : Nat ⊕ (Nat × Nat) := if kd = 2 then sel (tkP T n k 3 0 100) (.inr (nxK T n k, numK T n k)) (.inl (spK T n k)) else .inr (k, 1)
/-- .. and the condition -/
noncomputable def plCond (k : Nat) (E : LE) : LR := sel (isW T n k (am_SL 20)) (pCnd T n (pAtm T n 6) (nxK T n k) E) (.inr (k, E))
/-- a line of the law -/
noncomputable def plLine (k : Nat) (E : LE) (L : LLn) : Nat ⊕ (Nat × LE × LLn) := sel (kdW T n k < 3) (match plGain T n (nxK T n k) (kdW T n k) with
  | .inl f => .inl f
  | .inr g => match plCond T n g.1 E with
    | .inl f => .inl f
    | .inr q => .inr (q.1, q.2, L ++ [(kdW T n k, g.2, q.2.length)])) (.inl (spK T n k))
noncomputable def raL : Nat → Nat → LE → LLn → Nat ⊕ (Nat × LE × LLn)
  | 0, k, _, _ => .inl (spK T n k)
  | j + 1, k, E, L => match plLine T n k E L with
    | .inl f => .inl f
    | .inr q => sel (n ≤ spK T n q.1) (.inr q) (sel (isW T n q.1 [59]) (raL j (nxK T n q.1) q.2.1 q.2.2) (.inl (spK T n q.1)))
/-- a text of the law -/
noncomputable def prLaw : Nat ⊕ (Nat × LE × LLn) := sel (n ≤ spK T n 0) (.inr (0, [], [])) (raL T n 12 0 [] [])
end
/-- the lines read, in the class -/
def LLd (L : LLn) (s : Mg) : Prop := s 308 6 = nI L.length ∧ ∀ i, i < L.length → s 309 i = nI (L.getD i (0, 0, 0)).1 ∧ s 310 i = (if (L.getD i (0, 0, 0)).1 = 2 then nI (L.getD i (0, 0, 0)).2.1 else 0) ∧ s 311 i = nI (L.getD i (0, 0, 0)).2.2
theorem s_50 {X : Nat × (Nat → Int32)} {d : Nat} {p : Nat → Nat} {sg : Mg} {T : Nat → Int32} {n k : Nat} {E : LE} (hT : CT T n k sg) (hC : LCd E sg) : gF X (d + 2) 50 [vR 5] p sg (fun r => (kdW T n k < 3 ∧ ∃ s, (CT T n (nxK T n k) s ∧ CN sg s) ∧ r = gRv p s (nI (kdW T n k))) ∨ (¬ kdW T n k < 3 ∧ ∃ s, CF (spK T n k) sg s ∧ r = gRx p s 0)) := by
  refine g_in (cd := k_50) (nL := 2) (rc := 6) rfl (g_A (a := 5) (kd := 0) (n := 5) rfl (by decide)) (g_c1 rfl) (b_50_0 (d := d) hT hC (FL.rf sg) ?_ ?_ ?_ ?_)
  · intro h1 h2 h3 s4 e4 _ _ _
    have e : kdW T n k = 2 := by unfold kdW; rw [sel_f (dcN_n.mp h1), sel_f (dcN_n.mp h2), sel_t (dcN_i.mp h3)]
    exact Or.inl ⟨by rw [e]; decide, s4, e4, by rw [e]; rfl⟩
  · intro h1 h2 h3 s5 e5 _ _ _
    have e : kdW T n k = 3 := by unfold kdW; rw [sel_f (dcN_n.mp h1), sel_f (dcN_n.mp h2), sel_f (dcN_n.mp h3)]
    exact Or.inr ⟨by rw [e]; decide, s5, e5, rfl⟩
  · intro h1 h2 s6 e6 _ _ _
    have e : kdW T n k = 1 := by unfold kdW; rw [sel_f (dcN_n.mp h1), sel_t (dcN_i.mp h2)]
    exact Or.inl ⟨by rw [e]; decide, s6, e6, by rw [e]; rfl⟩
  · intro h1 s7 e7 _ _ _
    have e : kdW T n k = 0 := by unfold kdW; rw [sel_t (dcN_i.mp h1)]
    exact Or.inl ⟨by rw [e]; decide, s7, e7, by rw [e]; rfl⟩
theorem nx_k {T : Nat → Int32} {n k : Nat} (hk : k ≤ n) (h : kdW T n k < 3) : k < nxK T n k ∧ nxK T n k ≤ n ∧ spK T n k < n := by
  by_cases c1 : isW T n k (am_SL 17)
  · exact nx_w hk (by decide) c1
  by_cases c2 : isW T n k (am_SL 18)
  · exact nx_w hk (by decide) c2
  by_cases c3 : isW T n k (am_SL 19)
  · exact nx_w hk (by decide) c3
  exfalso
  unfold kdW at h
  rw [sel_f c1, sel_f c2, sel_f c3] at h
  omega
/-- reading lines keeps all but this -/
def FK (sg s : Mg) : Prop := (∀ c, c ≠ 1 → (c < 308 ∨ 313 ≤ c) → s c = sg c) ∧ ∀ f, f ≠ 2 → f ≠ 3 → f ≠ 4 → s 1 f = sg 1 f
theorem FK.rf (sg : Mg) : FK sg sg := ⟨fun _ _ _ => rfl, fun _ _ _ _ => rfl⟩
theorem FK.tr {sg s s' : Mg} (h : FK sg s) (g : FK s s') : FK sg s' := ⟨fun c c1 c2 => (g.1 c c1 c2).trans (h.1 c c1 c2), fun f f2 f3 f4 => (g.2 f f2 f3 f4).trans (h.2 f f2 f3 f4)⟩
theorem FL.fk {sg s : Mg} (h : FL sg s) : FK sg s := ⟨fun c c1 c2 => h.1 c c1 (by omega) (by omega), h.2.1⟩
theorem CN.fk {sg s : Mg} (h : CN sg s) : FK sg s := ⟨fun c c1 _ => h.1 c c1, fun f _ f3 f4 => h.2 f f3 f4⟩
theorem LFl.fk {f : Nat} {sg s : Mg} {p : Nat → Nat} {r : am_R} (h : FK sg s) (g : LFl f s p r) : LFl f sg p r := by
  obtain ⟨s', g1, g2, g3, g4⟩ := g
  exact ⟨s', fun c c1 c2 => (g1 c c1 c2).trans (h.1 c c1 c2), g2.trans (h.2 1 (by decide) (by decide) (by decide)), g3, g4⟩
theorem LFl.cf {f : Nat} {sg s s' : Mg} {p : Nat → Nat} (h : FK sg s) (g : CF f s s') : LFl f sg p (gRx p s' 0) := LFl.fk h (LFl.of (FL.rf s) g)
theorem LLd.fl {L : LLn} {sg s : Mg} (h : LLd L sg) (g : FL sg s) : LLd L s := by
  unfold LLd at h ⊢
  rw [g.2.2 6 (by decide), g.1 309 (by decide) (by decide) (by decide), g.1 310 (by decide) (by decide) (by decide), g.1 311 (by decide) (by decide) (by decide)]
  exact h
theorem LLd.cn {L : LLn} {sg s : Mg} (h : LLd L sg) (g : CN sg s) : LLd L s := by
  unfold LLd at h ⊢
  rw [g.1 308 (by decide), g.1 309 (by decide), g.1 310 (by decide), g.1 311 (by decide)]
  exact h
theorem getD_app {α : Type} {L : List α} {q x : α} {i : Nat} (hi : i < L.length + 1) : (L ++ [q]).getD i x = if i = L.length then q else L.getD i x := by
  by_cases c : i = L.length
  · rw [if_pos c, c, List.getD_eq_getElem?_getD, List.getElem?_append_right (Nat.le_refl _), Nat.sub_self]
    rfl
  · rw [if_neg c, List.getD_eq_getElem?_getD, List.getD_eq_getElem?_getD, List.getElem?_append_left (by omega)]
/-- a line is closed -/
theorem s_43 {X : Nat × (Nat → Int32)} {d : Nat} {p : Nat → Nat} {sg : Mg} {E : LE} {L : LLn} {kd gn : Nat} (hC : LCd E sg) (hL : LLd L sg) (hl : L.length < 12) (hE : E.length ≤ 400) : gF X (d + 1) 43 [vR 308, vI (nI kd), vI (if kd = 2 then nI gn else 0)] p sg (fun r => ∃ s, ((∀ c, c ≠ 308 → c ≠ 309 → c ≠ 310 → c ≠ 311 → s c = sg c) ∧ LCd E s ∧ LLd (L ++ [(kd, gn, E.length)]) s) ∧ r = gR0 p s) := by
  refine g_in (cd := k_43) (nL := 3) (rc := 5) rfl (g_A (a := 308) (kd := 0) (n := 4) rfl (by decide)) (g_c1 rfl) (b_43_0 (d := d) (by omega) hL.1 hE hC.1 (fun h => by omega) (fun _ s3 e3 s4 e4 s5 e5 s6 e6 => ?_))
  refine ⟨s6, ⟨fun c c8 c9 c10 c11 => by rw [e6, mu_ne c8, e5, mu_ne c11, e4, mu_ne c10, e3, mu_ne c9], ⟨?_, fun i hi => ?_⟩, ?_, fun i hi => ?_⟩, rfl⟩
  · rw [e6, mu_idx (by decide), e5, mu_ne (by decide), e4, mu_ne (by decide), e3, mu_ne (by decide)]; exact hC.1
  · rw [e6, mu_ne (by decide), e5, mu_ne (by decide), e4, mu_ne (by decide), e3, mu_ne (by decide)]; exact hC.2 i hi
  · rw [e6, mu_self, List.length_append]; rfl
  · rw [List.length_append] at hi
    have hi : i < L.length + 1 := hi
    rw [getD_app hi]
    by_cases c : i = L.length
    · subst c
      rw [if_pos rfl]
      refine ⟨?_, ?_, ?_⟩
      · rw [e6, mu_ne (by decide), e5, mu_ne (by decide), e4, mu_ne (by decide), e3, mu_self]
      · rw [e6, mu_ne (by decide), e5, mu_ne (by decide), e4, mu_self]
      · rw [e6, mu_ne (by decide), e5, mu_self]
    · rw [if_neg c]
      have := hL.2 i (by omega)
      refine ⟨?_, ?_, ?_⟩
      · rw [e6, mu_ne (by decide), e5, mu_ne (by decide), e4, mu_ne (by decide), e3, mu_idx c]; exact this.1
      · rw [e6, mu_ne (by decide), e5, mu_ne (by decide), e4, mu_idx c, e3, mu_ne (by decide)]; exact this.2.1
      · rw [e6, mu_ne (by decide), e5, mu_idx c, e4, mu_ne (by decide), e3, mu_ne (by decide)]; exact this.2.2
