/-! LAW: the call, in the class (made by wip/whole/gen89zzi.py) -/
section
variable {T : Nat → Int32} {n : Nat}
theorem raL_at {j k f : Nat} {E : LE} {L : LLn} (h : plLine T n k E L = .inl f) : raL T n (j + 1) k E L = .inl f := by
  simp only [raL, h]
theorem raL_go {j k : Nat} {E : LE} {L : LLn} {q : Nat × LE × LLn} (h : plLine T n k E L = .inr q) : raL T n (j + 1) k E L = sel (n ≤ spK T n q.1) (.inr q) (sel (isW T n q.1 [59]) (raL T n j (nxK T n q.1) q.2.1 q.2.2) (.inl (spK T n q.1))) := by
  simp only [raL, h]
theorem plLine_end {k : Nat} {E : LE} {L : LLn} (hk : k ≤ n) (h : n ≤ spK T n k) : plLine T n k E L = .inl (spK T n k) := by
  refine plLine_k (fun g => ?_)
  have := (nx_k hk g).2.2
  omega
/-- the last line ends where what is written ends -/
def EOK (E : LE) (L : LLn) : Prop := (if L.length = 0 then 0 else (L.getD (L.length - 1) (0, 0, 0)).2.2) = E.length
theorem plLine_e {k : Nat} {E : LE} {L : LLn} {q : Nat × LE × LLn} (h : plLine T n k E L = .inr q) : EOK q.2.1 q.2.2 := by
  by_cases c : kdW T n k < 3
  · cases hG : plGain T n (nxK T n k) (kdW T n k) with
    | inl f => rw [plLine_g c hG] at h; cases h
    | inr g =>
      cases hC : plCond T n g.1 E with
      | inl f => rw [plLine_c c hG hC] at h; cases h
      | inr v =>
        rw [plLine_r c hG hC] at h
        cases h
        show (if (L ++ [(kdW T n k, g.2, v.2.length)]).length = 0 then 0 else ((L ++ [(kdW T n k, g.2, v.2.length)]).getD ((L ++ [(kdW T n k, g.2, v.2.length)]).length - 1) (0, 0, 0)).2.2) = v.2.length
        rw [List.length_append]
        show (if L.length + 1 = 0 then 0 else ((L ++ [(kdW T n k, g.2, v.2.length)]).getD (L.length + 1 - 1) (0, 0, 0)).2.2) = v.2.length
        rw [if_neg (by omega), Nat.add_sub_cancel, getD_app (by omega), if_pos rfl]
  · rw [plLine_k c] at h; cases h
theorem raL_ok : ∀ (j k : Nat) (E : LE) (L : LLn) (q : Nat × LE × LLn), k ≤ n → E.length ≤ k → EOK E L → raL T n j k E L = .inr q → EOK q.2.1 q.2.2 ∧ q.2.2.length ≤ L.length + j ∧ q.2.1.length ≤ n
  | 0, _, _, _, _, _, _, _, h => by cases h
  | j + 1, k, E, L, q, hk, hE, hO, h => by
    cases hR : plLine T n k E L with
    | inl f => rw [raL_at hR] at h; cases h
    | inr v =>
      rw [raL_go hR] at h
      have g1 := plLine_n hk hE hR
      have g2 := plLine_e hR
      by_cases c : n ≤ spK T n v.1
      · rw [sel_t c] at h; cases h; exact ⟨g2, by omega, by omega⟩
      · rw [sel_f c] at h
        by_cases c2 : isW T n v.1 [59]
        · rw [sel_t c2] at h
          have g3 := nx_w g1.2.1 (by decide) c2
          have := raL_ok j _ _ _ _ g3.2.1 (by omega) g2 h
          exact ⟨this.1, by have := this.2.1; omega, this.2.2⟩
        · rw [sel_f c2] at h; cases h
theorem prLaw_ok {q : Nat × LE × LLn} (h : prLaw T n = .inr q) : EOK q.2.1 q.2.2 ∧ q.2.2.length ≤ 12 ∧ q.2.1.length ≤ n := by
  unfold prLaw at h
  by_cases c : n ≤ spK T n 0
  · rw [sel_t c] at h; cases h; exact ⟨rfl, Nat.zero_le _, Nat.zero_le _⟩
  · rw [sel_f c] at h
    have := raL_ok 12 0 [] [] q (Nat.zero_le _) (Nat.zero_le _) rfl h
    exact ⟨this.1, by have := this.2.1; simpa using this, this.2.2⟩
end
/-- how reading a text of the law ends, in the class -/
def rdK (R : Nat ⊕ (Nat × LE × LLn)) (sg : Mg) (p : Nat → Nat) (r : am_R) : Prop := match R with
  | .inl f => LFl f sg p r
  | .inr q => ∃ s, (FK sg s ∧ LCd q.2.1 s ∧ LLd q.2.2 s) ∧ r = gR0 p s
theorem w_49 {X : Nat × (Nat → Int32)} {d : Nat} {p : Nat → Nat} {sg0 : Mg} {T : Nat → Int32} {n : Nat} : ∀ (j l k : Nat) (E : LE) (L : LLn) (s : Mg) (z2 z3 : Option AV), l + (j + 1) = 12 → L.length = l → E.length ≤ k → LCd E s → LLd L s → CT T n k s → FK sg0 s → ¬ n ≤ spK T n k → gW X (d + 18) k_49 17 [some (vR 5), some (vI (nI l)), z2, z3] [] p s (rdK (raL T n (j + 1) k E L) sg0 p) := by
  intro j
  induction j using Nat.strongRecOn with
  | ind j ih =>
    intro l k E L s z2 z3 hl hLl hE hC hL hT hF hne
    have hk := hT.1
    refine ln_49 hT hC hL hF hE (by omega) (fun q s' z2 z3 hq cT cC cL cF => ?_) (fun f r hf hr => by rw [raL_at hf]; exact hr)
    have g1 := plLine_n hk hE hq
    rw [raL_go hq]
    refine g_pure 2 (i' := 8) (lv' := [some (vR 5), some (vI (nI l + 1)), z2, z3]) (st' := []) rfl ?_
    rw [show nI l + 1 = nI (l + 1) from nI_add l 1]
    refine g_pure 2 (i' := 10) (lv' := [some (vR 5), some (vI (nI (l + 1))), z2, z3]) (st' := [vI 12, vI (nI (l + 1))]) rfl ?_
    refine g_if2 (i' := 50) (P := 12 < l + 1) rfl rfl (g_gtN (m := l + 1) (n := 12) rfl rfl (by omega) (by decide)) (fun h => by omega) (fun _ => ?_)
    refine g_pure 4 (i' := 15) (lv' := [some (vR 5), some (vI (nI (l + 1))), z2, z3]) (st' := [vI (nI 12), vI (nI (l + 1)), vR 1]) rfl ?_
    refine g_calV rfl (args := [vR 1, vI (nI (l + 1)), vI (nI 12)]) (rest := []) rfl rfl (Nat.zero_le _) (s_71 (d := d + 15) cT (by omega) (by omega)) (fun r hr => ?_)
    rcases hr with ⟨c1, rfl⟩ | ⟨c1, c2, rfl⟩ | ⟨c1, c2, c3, s2, hs2, rfl⟩ | ⟨c1, c2, c3, c4, s2, hs2, rfl⟩ | ⟨c1, c2, c3, c4, s2, hs2, rfl⟩
    · refine gK_v ?_
      refine g_if1 (i' := 50) (P := True) rfl rfl cd_eq0 (fun _ => ?_) (fun h => absurd trivial h)
      rw [sel_t c1]
      exact g_vret rfl ⟨s', ⟨cF, cC, cL⟩, rfl⟩
    · omega
    · rw [sel_f c1, sel_f c3]
      exact gK_x (LFl.cf cF hs2)
    · rw [sel_f c1, sel_t c3]
      refine gK_x ?_
      have hend : raL T n j (nxK T n q.1) q.2.1 q.2.2 = .inl (spK T n (nxK T n q.1)) := by
        cases j with
        | zero => rfl
        | succ j => exact raL_at (plLine_end (nxK_ok cT.1).2.1 (by omega))
      rw [hend]
      exact LFl.cf cF hs2
    · rw [sel_f c1, sel_t c3]
      refine gK_v ?_
      refine g_if1 (i' := 50) (P := False) rfl rfl cd_eq1 False.elim (fun _ => ?_)
      have g3 := nx_w g1.2.1 (by decide) c3
      cases j with
      | zero => omega
      | succ j => exact ih j (by omega) (l + 1) (nxK T n q.1) q.2.1 q.2.2 s2 z2 z3 (by omega) (by omega) (by omega) (cC.cn hs2.2) (cL.cn hs2.2) hs2.1 (cF.tr hs2.2.fk) (by omega)
/-- .. from the tape on -/
def rdN (R : Nat ⊕ (Nat × LE × LLn)) (sg : Mg) (p : Nat → Nat) (r : am_R) : Prop := match R with
  | .inl f => ∃ s, (∀ c, c ≠ 1 → (c < 308 ∨ 313 ≤ c) → s c = sg c) ∧ s 1 1 = 0 ∧ s 1 5 = nI f ∧ r = gRx p s 0
  | .inr q => ∃ s, ((∀ c, c ≠ 1 → (c < 308 ∨ 313 ≤ c) → s c = sg c) ∧ s 1 1 = 0 ∧ s 1 5 = -1 ∧ LCd q.2.1 s ∧ LLd q.2.2 s) ∧ r = gR0 p s
theorem s_49 {X : Nat × (Nat → Int32)} {d : Nat} {p : Nat → Nat} {sg : Mg} {T : Nat → Int32} {tl : Nat} (ht : tl ≤ 400) (h1 : sg 1 1 = nI tl) (h2 : ∀ i, i < tl → sg 2 i = T i) : gF X (d + 19) 49 [vR 5] p sg (rdN (prLaw T tl) sg p) := by
  refine g_in (cd := k_49) (nL := 4) (rc := 6) rfl (g_A (a := 5) (kd := 0) (n := 5) rfl (by decide)) (g_c1 rfl) ?_
  show gW X (d + 18) k_49 0 [some (vR 5), none, none, none] [] p sg _
  refine g_pure 2 (i' := 2) (lv' := [some (vR 5), none, none, none]) (st' := [vR 1]) rfl ?_
  refine g_cV0E (p' := p) rfl (args := [vR 1]) (rest := []) rfl rfl rfl (s_68 (d := d + 15) ht h1 h2) (fun s hs => ?_)
  refine g_pure 2 (i' := 5) (lv' := [some (vR 5), none, none, none]) (st' := [vR 308]) rfl ?_
  refine g_cV0 (p' := p) (sg' := mu (mu s 308 5 0) 308 6 0) rfl (args := [vR 308]) (rest := []) rfl rfl rfl ?_ ?_
  · refine g_in (cd := k_41) (nL := 1) (rc := 5) rfl (g_A (a := 308) (kd := 0) (n := 4) rfl (by decide)) (g_c1 rfl) ?_
    show gW X (d + 17) k_41 0 [some (vR 308)] [] p s _
    refine g_pure 2 (i' := 2) (lv' := [some (vR 308)]) (st' := [vI 0, vR 308]) rfl ?_
    refine g_putI rfl (g_A (a := 308) (kd := 0) (n := 4) rfl (by decide)) ?_
    refine g_pure 2 (i' := 5) (lv' := [some (vR 308)]) (st' := [vI 0, vR 308]) rfl ?_
    refine g_putI rfl (g_A (a := 308) (kd := 0) (n := 4) rfl (by decide)) ?_
    exact g_vret rfl rfl
  have f1 : ∀ c, c ≠ 308 → mu (mu s 308 5 0) 308 6 0 c = s c := fun c hc => by rw [mu_ne hc, mu_ne hc]
  have f2 : mu (mu s 308 5 0) 308 6 0 308 5 = nI 0 := by rw [mu_idx (by decide), mu_self]; rfl
  have f3 : mu (mu s 308 5 0) 308 6 0 308 6 = nI 0 := mu_self
  generalize mu (mu s 308 5 0) 308 6 0 = s2 at f1 f2 f3
  have hT : CT T tl 0 s2 := hs.2.1.eq (f1 1 (by decide)) (f1 2 (by decide))
  have hC : LCd [] s2 := ⟨f2, fun i hi => absurd hi (Nat.not_lt_zero _)⟩
  have hL : LLd [] s2 := ⟨f3, fun i hi => absurd hi (Nat.not_lt_zero _)⟩
  refine g_pure 4 (i' := 10) (lv' := [some (vR 5), some (vI (nI 0)), none, none]) (st' := [vI (nI 12), vI (nI 0)]) rfl ?_
  refine g_if2 (i' := 50) (P := False) rfl rfl ⟨fun h => absurd (show (nI 12 : Int32) < nI 0 from h) (by decide), False.elim⟩ False.elim (fun _ => ?_)
  refine g_pure 4 (i' := 15) (lv' := [some (vR 5), some (vI (nI 0)), none, none]) (st' := [vI (nI 12), vI (nI 0), vR 1]) rfl ?_
  refine g_calV rfl (args := [vR 1, vI (nI 0), vI (nI 12)]) (rest := []) rfl rfl (Nat.zero_le _) (s_71 (d := d + 15) hT (by omega) (by omega)) (fun r hr => ?_)
  have b1 : ∀ c, c ≠ 1 → (c < 308 ∨ 313 ≤ c) → s2 c = sg c := fun c c1 c2 => (f1 c (by omega)).trans (hs.1 c c1)
  have b2 : s2 1 1 = 0 := by rw [f1 1 (by decide)]; exact hs.2.2.1
  have b3 : s2 1 5 = -1 := by rw [f1 1 (by decide)]; exact hs.2.2.2
  unfold prLaw
  rcases hr with ⟨c1, rfl⟩ | ⟨c1, c2, rfl⟩ | ⟨c1, c2, c3, s3, hs2, rfl⟩ | ⟨c1, c2, c3, c4, s3, hs2, rfl⟩ | ⟨c1, c2, c3, c4, s3, hs2, rfl⟩
  · refine gK_v ?_
    refine g_if1 (i' := 50) (P := True) rfl rfl cd_eq0 (fun _ => ?_) (fun h => absurd trivial h)
    rw [sel_t c1]
    exact g_vret rfl ⟨s2, ⟨b1, b2, b3, hC, hL⟩, rfl⟩
  · refine gK_v ?_
    refine g_if1 (i' := 50) (P := False) rfl rfl cd_eq1 False.elim (fun _ => ?_)
    rw [sel_f c1]
    obtain ⟨r, g1, g2⟩ := w_49 (X := X) (d := d) (p := p) 11 0 0 [] [] s2 none none rfl rfl (Nat.zero_le _) hC hL hT (FK.rf s2) c1
    refine ⟨r, g1, ?_⟩
    have g2 : rdK (raL T tl 12 0 [] []) s2 p r := g2
    cases hR : raL T tl 12 0 [] [] with
    | inl f =>
      rw [hR] at g2
      obtain ⟨s9, a1, a2, a3, a4⟩ := g2
      exact ⟨s9, fun c h1 h2 => (a1 c h1 h2).trans (b1 c h1 h2), a2.trans b2, a3, a4⟩
    | inr q =>
      rw [hR] at g2
      obtain ⟨s9, ⟨a1, a2, a3⟩, a5⟩ := g2
      exact ⟨s9, ⟨fun c h1 h2 => (a1.1 c h1 h2).trans (b1 c h1 h2), (a1.2 1 (by decide) (by decide) (by decide)).trans b2, (a1.2 5 (by decide) (by decide) (by decide)).trans b3, a2, a3⟩, a5⟩
  · exact absurd rfl c2
  · exact absurd rfl c2
  · exact absurd rfl c2
