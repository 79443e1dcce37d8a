/-! COUNTRY: the whole text, in the class (made by wip/whole/gen89zs.py) -/
section
variable {T : Nat → Int32} {n : Nat}
theorem isW_end {k : Nat} (hk : k ≤ n) (h : n ≤ spK T n k) {w : List Int32} (hw : w ≠ []) : ¬ isW T n k w := fun g => by
  have h1 := spK_ok (T := T) hk
  have h2 : nxK T n k = spK T n k := by unfold nxK enK; rw [if_neg (by omega)]
  have h3 := g.1
  rw [h2, Nat.sub_self] at h3
  exact hw (List.eq_nil_of_length_eq_zero h3.symm)
/-- the lines of a text of the country -/
noncomputable def raC (T : Nat → Int32) (n : Nat) : Nat → Nat → (Nat → Int32) → PRs
  | 0, k, _ => .inl (spK T n k)
  | j + 1, k, S => match prLine T n k S with
    | .inl f => .inl f
    | .inr q => sel (n ≤ spK T n q.1) (.inr q) (sel (isW T n q.1 [59]) (raC T n j (nxK T n q.1) q.2) (.inl (spK T n q.1)))
noncomputable def prAll (T : Nat → Int32) (n : Nat) (S : Nat → Int32) : PRs := sel (n ≤ spK T n 0) (.inr (0, S)) (raC T n 14 0 S)
theorem raC_at {j k : Nat} {S : Nat → Int32} {f : Nat} (h : prLine T n k S = .inl f) : raC T n (j + 1) k S = .inl f := by
  simp only [raC, h]
theorem raC_go {j k : Nat} {S : Nat → Int32} {q : Nat × (Nat → Int32)} (h : prLine T n k S = .inr q) : raC T n (j + 1) k S = sel (n ≤ spK T n q.1) (.inr q) (sel (isW T n q.1 [59]) (raC T n j (nxK T n q.1) q.2) (.inl (spK T n q.1))) := by
  simp only [raC, h]
theorem prLine_end {k : Nat} {S : Nat → Int32} (hk : k ≤ n) (h : n ≤ spK T n k) : prLine T n k S = .inl (spK T n k) := by
  unfold prLine prRest
  rw [sel_f (isW_end hk h (by decide)), sel_f (isW_end hk h (by decide)), sel_f (isW_end hk h (by decide)), sel_f (isW_end hk h (by decide)), sel_f (isW_end hk h (by decide)), sel_f (isW_end hk h (by decide)), sel_f (isW_end hk h (by decide)), sel_f (isW_end hk h (by decide)), sel_f (isW_end hk h (by decide)), sel_f (isW_end hk h (by decide))]
theorem raC_ok {B : Nat} : ∀ (j k : Nat) {S S' : Nat → Int32} {k' : Nat}, Inv B S → Str S → raC T n j k S = .inr (k', S') → OKS B S S'
  | 0, _, _, _, _, _, _, h => by cases h
  | j + 1, k, S, S', k', hI, hS, h => by
    cases hR : prLine T n k S with
    | inl f => rw [raC_at hR] at h; cases h
    | inr q =>
      rw [raC_go hR] at h
      have h1 : OKS B S q.2 := prLine_ok hI hS hR
      by_cases c : n ≤ spK T n q.1
      · rw [sel_t c] at h; cases h; exact h1
      · rw [sel_f c] at h
        obtain ⟨c2, h⟩ := sel_r h
        have h2 := raC_ok j _ h1.1 h1.2.1 h
        exact ⟨h2.1, h2.2.1, h1.2.2.tr h2.2.2⟩
theorem prAll_ok {B : Nat} {S S' : Nat → Int32} {k' : Nat} (hI : Inv B S) (hS : Str S) (h : prAll T n S = .inr (k', S')) : OKS B S S' := by
  unfold prAll at h
  by_cases c : n ≤ spK T n 0
  · rw [sel_t c] at h; cases h; exact ⟨hI, hS, rfl, rfl, fun _ _ => rfl⟩
  · rw [sel_f c] at h; exact raC_ok 14 0 hI hS h
end
theorem s_68 {X : Nat × (Nat → Int32)} {d : Nat} {p : Nat → Nat} {sg : Mg} {T : Nat → Int32} {tl : Nat} (ht : tl ≤ 400) (h1 : sg 1 1 = nI tl) (h2 : ∀ i, i < tl → sg 2 i = T i) : gF X (d + 3) 68 [vR 1] p sg (fun r => ∃ s, ((∀ c, c ≠ 1 → s c = sg c) ∧ CT T tl 0 s ∧ s 1 1 = 0 ∧ s 1 5 = -1) ∧ r = gR0 p s) := by
  refine g_in (cd := k_68) (nL := 1) (rc := 9) rfl (g_A (a := 1) (kd := 0) (n := 8) rfl (by decide)) (g_c1 rfl) ?_
  show gW X (d + 2) k_68 0 [some (vR 1)] [] p sg _
  refine g_pure 1 (i' := 1) (lv' := [some (vR 1)]) (st' := [vR 1]) rfl ?_
  refine g_cV1E (p' := p) (P := fun s => (∀ c, c ≠ 1 → s c = sg c) ∧ s 1 1 = 0 ∧ s 1 2 = nI tl) rfl (args := [vR 1]) (rest := []) rfl rfl rfl (v := nI tl) ?_ (fun s hs => ?_)
  · refine g_in (cd := k_69) (nL := 1) (rc := 9) rfl (g_A (a := 1) (kd := 0) (n := 8) rfl (by decide)) (g_c1 rfl) (b_69_0 (d := d) ht h1 (fun s1 e1 s2 e2 => ?_))
    refine ⟨s2, ⟨fun c hc => by rw [e2, mu_ne hc, e1, mu_ne hc], by rw [e2, mu_self], by rw [e2, mu_idx (by decide), e1, mu_self]⟩, ?_⟩
    rw [e2, mu_idx (by decide), e1, mu_self]
  refine g_pure 3 (i' := 5) (lv' := [some (vR 1)]) (st' := [vI (-1), vR 1]) rfl ?_
  refine g_putI rfl (g_A (a := 1) (kd := 0) (n := 8) rfl (by decide)) ?_
  refine g_pure 2 (i' := 8) (lv' := [some (vR 1)]) (st' := [vI 0, vR 1]) rfl ?_
  refine g_putI rfl (g_A (a := 1) (kd := 0) (n := 8) rfl (by decide)) ?_
  refine g_pure 1 (i' := 10) (lv' := [some (vR 1)]) (st' := [vR 1]) rfl ?_
  refine g_cV0E (p' := p) rfl (args := [vR 1]) (rest := []) rfl rfl rfl (s_70k (d := d + 1) (T := T) (n := tl) (k := 0) (Nat.zero_le _) ht ?_ ?_ (fun i hi => ?_)) (fun s2 hs2 => ?_)
  · rw [mu_idx (by decide), mu_idx (by decide)]; exact hs.2.2
  · rw [mu_self]; rfl
  · rw [mu_ne (by decide), mu_ne (by decide), hs.1 2 (by decide)]; exact h2 i hi
  · refine g_vret rfl ⟨s2, ⟨fun c hc => ?_, hs2.1, ?_, ?_⟩, rfl⟩
    · rw [hs2.2.1 c hc, mu_ne hc, mu_ne hc]; exact hs.1 c hc
    · rw [hs2.2.2 1 (by decide) (by decide), mu_idx (by decide), mu_idx (by decide)]; exact hs.2.1
    · rw [hs2.2.2 5 (by decide) (by decide), mu_idx (by decide), mu_self]
/-- how hasLine ends -/
def hlN (T : Nat → Int32) (n k l m : Nat) (sg : Mg) (p : Nat → Nat) (r : am_R) : Prop :=
  (n ≤ spK T n k ∧ r = gRv p sg 0) ∨ (¬ n ≤ spK T n k ∧ l = 0 ∧ r = gRv p sg 1) ∨ (¬ n ≤ spK T n k ∧ l ≠ 0 ∧ ¬ isW T n k [59] ∧ ∃ s, CF (spK T n k) sg s ∧ r = gRx p s 0) ∨
  (¬ n ≤ spK T n k ∧ l ≠ 0 ∧ isW T n k [59] ∧ (n ≤ spK T n (nxK T n k) ∨ m ≤ l) ∧ ∃ s, CF (spK T n (nxK T n k)) sg s ∧ r = gRx p s 0) ∨
  (¬ n ≤ spK T n k ∧ l ≠ 0 ∧ isW T n k [59] ∧ ¬ (n ≤ spK T n (nxK T n k) ∨ m ≤ l) ∧ ∃ s, (CT T n (nxK T n k) s ∧ CN sg s) ∧ r = gRv p s 1)
theorem s_71 {X : Nat × (Nat → Int32)} {d : Nat} {p : Nat → Nat} {sg : Mg} {T : Nat → Int32} {n k l m : Nat} (h : CT T n k sg) (hl : l ≤ 100) (hm : m ≤ 100) : gF X (d + 3) 71 [vR 1, vI (nI l), vI (nI m)] p sg (hlN T n k l m sg p) := by
  refine g_in (cd := k_71) (nL := 3) (rc := 9) rfl (g_A (a := 1) (kd := 0) (n := 8) rfl (by decide)) (g_c1 rfl) ?_
  show gW X (d + 2) k_71 0 [some (vR 1), some (vI (nI l)), some (vI (nI m))] [] p sg _
  refine g_pure 1 (i' := 1) (lv' := [some (vR 1), some (vI (nI l)), some (vI (nI m))]) (st' := [vR 1]) rfl ?_
  refine g_cV1 rfl (args := [vR 1]) (rest := []) rfl rfl rfl (s_72 (d := d + 1) h) ?_
  refine g_if1 (i' := 5) (P := ¬ n ≤ spK T n k) rfl rfl g_eqB (fun he => ?_) (fun he => ?_)
  rotate_left
  · refine g_pure 1 (i' := 4) (lv' := [some (vR 1), some (vI (nI l)), some (vI (nI m))]) (st' := [vI 0]) rfl ?_
    exact g_bret rfl g_nar0 (Or.inl ⟨Classical.not_not.mp he, rfl⟩)
  refine g_pure 1 (i' := 6) (lv' := [some (vR 1), some (vI (nI l)), some (vI (nI m))]) (st' := [vI (nI l)]) rfl ?_
  refine g_if1 (i' := 20) (P := l ≤ 0) rfl rfl (nI_leI (by omega) (by decide)) (fun hz => ?_) (fun hz => ?_)
  · refine g_pure 1 (i' := 21) (lv' := [some (vR 1), some (vI (nI l)), some (vI (nI m))]) (st' := [vI 1]) rfl ?_
    exact g_bret rfl g_nar1 (Or.inr (Or.inl ⟨he, by omega, rfl⟩))
  refine g_pure 2 (i' := 9) (lv' := [some (vR 1), some (vI (nI l)), some (vI (nI m))]) (st' := [vS 0, vR 1]) rfl ?_
  by_cases hw : isW T n k (am_SL 0)
  · refine g_cV0E (p' := p) rfl (args := [vR 1, vS 0]) (rest := []) rfl rfl rfl (s_73a (d := d) (by decide) h hw) (fun s hs => ?_)
    have h1 := hs.1
    have fail : n ≤ spK T n (nxK T n k) ∨ m ≤ l → gW X (d + 2) k_71 16 [some (vR 1), some (vI (nI l)), some (vI (nI m))] [] p s (hlN T n k l m sg p) := fun hf => by
      refine g_pure 2 (i' := 18) (lv' := [some (vR 1), some (vI (nI l)), some (vI (nI m))]) (st' := [vR 1, vR 1]) rfl ?_
      refine g_getI rfl (g_A (a := 1) (kd := 0) (n := 8) rfl (by decide)) (show _ = nI (spK T n (nxK T n k)) from h1.2.2.2.1) ?_
      exact g_cVxE rfl (args := [vR 1, vI (nI (spK T n (nxK T n k)))]) (rest := []) rfl rfl rfl (s_75 (d := d + 1)) (fun s2 hs2 => Or.inr (Or.inr (Or.inr (Or.inl ⟨he, by omega, hw, hf, s2, hs2.cn hs.2, rfl⟩))))
    refine g_pure 1 (i' := 11) (lv' := [some (vR 1), some (vI (nI l)), some (vI (nI m))]) (st' := [vR 1]) rfl ?_
    refine g_cV1 rfl (args := [vR 1]) (rest := []) rfl rfl rfl (s_72 (d := d + 1) h1) ?_
    refine g_if1 (i' := 16) (P := n ≤ spK T n (nxK T n k)) rfl rfl g_neB (fun h9 => fail (Or.inl h9)) (fun h9 => ?_)
    refine g_pure 2 (i' := 15) (lv' := [some (vR 1), some (vI (nI l)), some (vI (nI m))]) (st' := [vI (nI m), vI (nI l)]) rfl ?_
    refine g_if2 (i' := 20) (P := l < m) rfl rfl (nI_ltI (by omega) (by omega)) (fun h8 => ?_) (fun h8 => fail (Or.inr (by omega)))
    refine g_pure 1 (i' := 21) (lv' := [some (vR 1), some (vI (nI l)), some (vI (nI m))]) (st' := [vI 1]) rfl ?_
    exact g_bret rfl g_nar1 (Or.inr (Or.inr (Or.inr (Or.inr ⟨he, by omega, hw, by omega, s, hs, rfl⟩))))
  · exact g_cVxE rfl (args := [vR 1, vS 0]) (rest := []) rfl rfl rfl (s_73b (d := d) (by decide) h hw) (fun s hs => Or.inr (Or.inr (Or.inl ⟨he, by omega, hw, s, hs, rfl⟩)))
theorem cd_ne1 : g_cd .ne 1 0 ↔ True := ⟨fun _ => trivial, fun _ => (by decide : ¬ (1 : Int32) = 0)⟩
theorem cd_ne0 : g_cd .ne 0 0 ↔ False := ⟨fun h => (h rfl).elim, False.elim⟩
theorem cd_eq0 : g_cd .eq 0 0 ↔ True := ⟨fun _ => trivial, fun _ => rfl⟩
theorem cd_eq1 : g_cd .eq 1 0 ↔ False := ⟨fun h => absurd (show (1 : Int32) = 0 from h) (by decide), False.elim⟩
/-- how reading a text of the country ends -/
theorem w_8 {X : Nat × (Nat → Int32)} {d : Nat} {p : Nat → Nat} {sg0 : Mg} {B : Nat} {T : Nat → Int32} {n : Nat} : ∀ (j l k : Nat) (S : Nat → Int32) (s : Mg), l + (j + 1) = 14 → Inv B S → Str S → cwL 350 s S → cwD 300 s S → CT T n k s → FRc sg0 s → ¬ n ≤ spK T n k → gW X (d + 7) k_8 14 [some (vR 4), some (vI (nI l))] [] p s (lnC (raC T n (j + 1) k S) T n sg0 p) := by
  intro j
  induction j using Nat.strongRecOn with
  | ind j ih =>
    intro l k S s hl hI hStr hL hD hT hF hne
    have stepx : ∀ R : PRs, prLine T n k S = R → ∀ r, (∀ s' q, R = .inr q → FRc s s' ∧ CT T n q.1 s' ∧ cwL 350 s' q.2 ∧ cwD 300 s' q.2 → gW X (d + 7) k_8 26 [some (vR 4), some (vI (nI l))] [] p s' r) → (∀ f r', R = .inl f → LF f s p r' → r r') → gW X (d + 7) k_8 14 [some (vR 4), some (vI (nI l))] [] p s r := fun R hR r g1 g2 => by
      refine g_pure 1 (i' := 15) (lv' := [some (vR 4), some (vI (nI l))]) (st' := [vR 4]) rfl ?_
      refine g_calV rfl (args := [vR 4]) (rest := []) rfl rfl (Nat.zero_le _) (s_9 (d := d) hI hL hD hT) (fun q hq => ?_)
      rw [hR] at hq
      rcases hq with ⟨n9, e9, rfl⟩ | ⟨n9, hq⟩
      · refine gK_v ?_
        refine g_if1 (i' := 26) (P := False) rfl rfl cd_ne0 False.elim (fun _ => ?_)
        refine g_pure 1 (i' := 18) (lv' := [some (vR 4), some (vI (nI l))]) (st' := [vR 4]) rfl ?_
        refine g_calV rfl (args := [vR 4]) (rest := []) rfl rfl (Nat.zero_le _) (s_21 (d := d) hI hL hD hT) (fun q hq => ?_)
        rw [← e9] at hq
        rcases hq with ⟨n21, e21, rfl⟩ | ⟨n21, hq⟩
        · refine gK_v ?_
          refine g_if1 (i' := 26) (P := False) rfl rfl cd_ne0 False.elim (fun _ => ?_)
          refine g_pure 4 (i' := 24) (lv' := [some (vR 4), some (vI (nI l))]) (st' := [vR 1, vR 1]) rfl ?_
          refine g_cV1 rfl (args := [vR 1]) (rest := [vR 1]) rfl rfl rfl (s_76 (d := d + 6) hT) ?_
          exact g_cVxE rfl (args := [vR 1, vI (nI (spK T n k))]) (rest := []) rfl rfl rfl (s_75 (d := d + 6)) (fun s2 hs2 => g2 _ _ e21 (LF.of (FRc.rf s) hs2))
        · cases R with
          | inl f => 
            have hq' : LF f s p q := hq
            obtain ⟨s9, a1, a2, a3, rfl⟩ := hq'
            exact gK_x (g2 f _ rfl ⟨s9, a1, a2, a3, rfl⟩)
          | inr v =>
            obtain ⟨s9, hs9, rfl⟩ := hq
            refine gK_v ?_
            exact g_if1 (i' := 26) (P := True) rfl rfl cd_ne1 (fun _ => g1 s9 v rfl hs9) (fun h => absurd trivial h)
      · cases R with
        | inl f => 
          have hq' : LF f s p q := hq
          obtain ⟨s9, a1, a2, a3, rfl⟩ := hq'
          exact gK_x (g2 f _ rfl ⟨s9, a1, a2, a3, rfl⟩)
        | inr v =>
          obtain ⟨s9, hs9, rfl⟩ := hq
          refine gK_v ?_
          exact g_if1 (i' := 26) (P := True) rfl rfl cd_ne1 (fun _ => g1 s9 v rfl hs9) (fun h => absurd trivial h)
    refine stepx _ rfl _ (fun s' q hq hs' => ?_) (fun f r' hf hr' => ?_)
    rotate_left
    · rw [raC_at hf]
      obtain ⟨s9, a1, a2, a3, a4⟩ := hr'
      exact ⟨s9, fun c c1 c2 => (a1 c c1 c2).trans (hF.1 c c1 c2), a2.trans (hF.2 1 (by decide) (by decide) (by decide)), a3, a4⟩
    have hF' := hF.tr hs'.1
    have hok : OKS B S q.2 := prLine_ok hI hStr hq
    rw [raC_go hq]
    refine g_pure 2 (i' := 5) (lv' := [some (vR 4), some (vI (nI l + 1))]) (st' := []) rfl ?_
    rw [show nI l + 1 = nI (l + 1) from nI_add l 1]
    refine g_pure 2 (i' := 7) (lv' := [some (vR 4), some (vI (nI (l + 1)))]) (st' := [vI 14, vI (nI (l + 1))]) rfl ?_
    refine g_if2 (i' := 28) (P := 14 < l + 1) rfl rfl (g_gtN (m := l + 1) (n := 14) rfl rfl (by omega) (by decide)) (fun h => by omega) (fun _ => ?_)
    refine g_pure 4 (i' := 12) (lv' := [some (vR 4), some (vI (nI (l + 1)))]) (st' := [vI (nI 14), vI (nI (l + 1)), vR 1]) rfl ?_
    refine g_calV rfl (args := [vR 1, vI (nI (l + 1)), vI (nI 14)]) (rest := []) rfl rfl (Nat.zero_le _) (s_71 (d := d + 4) hs'.2.1 (by omega) (by omega)) (fun r hr => ?_)
    rcases hr with ⟨c1, rfl⟩ | ⟨c1, c2, rfl⟩ | ⟨c1, c2, c3, s2, hs2, rfl⟩ | ⟨c1, c2, c3, c4, s2, hs2, rfl⟩ | ⟨c1, c2, c3, c4, s2, hs2, rfl⟩
    · refine gK_v ?_
      refine g_if1 (i' := 28) (P := True) rfl rfl cd_eq0 (fun _ => ?_) (fun h => absurd trivial h)
      rw [sel_t c1]
      exact g_vret rfl ⟨s', ⟨hF', hs'.2.1, hs'.2.2.1, hs'.2.2.2⟩, rfl⟩
    · omega
    · rw [sel_f c1, sel_f c3]
      exact gK_x (LF.of hF' hs2)
    · rw [sel_f c1, sel_t c3]
      refine gK_x ?_
      have hend : raC T n j (nxK T n q.1) q.2 = .inl (spK T n (nxK T n q.1)) := by
        cases j with
        | zero => rfl
        | succ j => exact raC_at (prLine_end (nxK_ok hs'.2.1.1).2.1 (by omega))
      rw [hend]
      exact LF.of hF' hs2
    · rw [sel_f c1, sel_t c3]
      refine gK_v ?_
      refine g_if1 (i' := 28) (P := False) rfl rfl cd_eq1 False.elim (fun _ => ?_)
      cases j with
      | zero => omega
      | succ j => exact ih j (by omega) (l + 1) (nxK T n q.1) q.2 s2 (by omega) hok.1 hok.2.1 (hs'.2.2.1.eqc (fun c c1 c2 => hs2.2.1 c (by omega))) (hs'.2.2.2.eqc (fun c c1 => hs2.2.1 c (by omega))) hs2.1 (hF'.cn hs2.2) (by omega)
