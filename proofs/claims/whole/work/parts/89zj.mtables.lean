/-! TABLES: the search and the call of the reference (made by wip/whole/gen89zj.py) -/
/-- the reference's memory but for the pages -/
def KM (s1 s : Mg) : Prop := ∀ c, c ≠ 814 → s c = s1 c
theorem l_296 {X : Nat × (Nat → Int32)} {p : Nat → Nat} {B : Nat} {S T : Nat → Int32} {tl : Nat} {s1 : Mg} {Q : am_R → Prop} (hI : Inv B S) (hS : s1 801 = S) (ht : tl ≤ 400) (hn : s1 800 10 = nI tl) (h3 : tl % 3 = 0) (hT : ∀ i, i < tl → s1 805 i = T i ∧ okx (T i) (sn S 9)) (h9 : sn S 9 ≤ 9) {d0 : Nat} (k : Nat) : ∀ (d : Nat) (w : Nat → Nat) (N : Nat) (s : Mg), d + (k + 1) = sn S 9 → 1 ≤ d → w 0 = 0 → (∀ a, a < d → w a < sn S 9) → KM s1 s → (∀ a, a < d → s 814 a = nI (w a)) → s 814 d = nI 0 →
    (∀ s', KM s1 s' → (∀ a, a < d → s' 814 a = nI (w a)) → gW X (d0 + 5) k_296 38 [some (vR 800), some (vI (nI (N + cO T (sn S 9) (tl / 3) (k + 1) d w))), some (vI (nI (d - 1)))] [] p s' Q) →
    gW X (d0 + 5) k_296 38 [some (vR 800), some (vI (nI N)), some (vI (nI d))] [] p s Q := by
  induction k using Nat.strongRecOn with
  | ind k ihk =>
    intro d w N s hd h1 hw0 hwD hK hs hsd hout
    have b9 := hI.b9
    have F0 : ifN (fitO T (sn S 9) (tl / 3) d (uN w d 0)) (cO T (sn S 9) (tl / 3) k (d + 1) (uN w d 0)) 0 = 0 := ifN_f (fun h => h.1 0 (by omega) (by rw [uN_ne (by omega), uN_self, hw0]))
    have key := g_upI (P := fun v => ∀ s, KM s1 s → (∀ a, a < d → s 814 a = nI (w a)) → s 814 d = nI v → gW X (d0 + 5) k_296 38 [some (vR 800), some (vI (nI (N + sm1 (fun v => ifN (fitO T (sn S 9) (tl / 3) d (uN w d v)) (cO T (sn S 9) (tl / 3) k (d + 1) (uN w d v)) 0) (v + 1)))), some (vI (nI d))] [] p s Q) (I := fun _ => True) (n := sn S 9 - 1) (a := 0) (by omega) trivial ?_ ?_
    · have := key s hK hs hsd
      rw [show sm1 (fun v => ifN (fitO T (sn S 9) (tl / 3) d (uN w d v)) (cO T (sn S 9) (tl / 3) k (d + 1) (uN w d v)) 0) (0 + 1) = 0 + ifN (fitO T (sn S 9) (tl / 3) d (uN w d 0)) (cO T (sn S 9) (tl / 3) k (d + 1) (uN w d 0)) 0 from rfl, F0, Nat.add_zero] at this
      exact this
    · intro v _ hv _ ih s hK hs hsd
      have ih := ih trivial
      have eS : s 801 = S := (hK 801 (by decide)).trans hS
      refine b_296_38 (v := v) hI eS (by omega) hsd (by omega) (fun h => by omega) (fun _ s2 e2 hne => ?_) (fun _ s2 e2 he => ?_)
      · have hK2 : KM s1 s2 := fun c hc => by rw [e2, mu_ne hc]; exact hK c hc
        have hs2 : ∀ a, a < d → s2 814 a = nI (w a) := fun a ha => by rw [e2, mu_idx (by omega)]; exact hs a ha
        have hd2 : s2 814 d = nI (v + 1) := by rw [e2, mu_self]
        have hall : ∀ i, i ≤ d → s2 814 i = nI (uN w d (v + 1) i) ∧ uN w d (v + 1) i < sn S 9 := fun i hi => by
          by_cases c : i = d
          · subst c; rw [uN_self]; exact ⟨hd2, by omega⟩
          · rw [uN_ne c]; exact ⟨hs2 i (by omega), hwD i (by omega)⟩
        refine g_pure 2 (i' := 59) (lv' := [some (vR 800), some (vI (nI (N + sm1 (fun v => ifN (fitO T (sn S 9) (tl / 3) d (uN w d v)) (cO T (sn S 9) (tl / 3) k (d + 1) (uN w d v)) 0) (v + 1)))), some (vI (nI d))]) (st' := [vI (nI d), vR 800]) rfl ?_
        refine g_calV rfl (args := [vR 800, vI (nI d)]) (rest := []) rfl rfl (Nat.zero_le _) (s_297 (d := d0 + 2) (w := uN w d (v + 1)) hI ((hK2 801 (by decide)).trans hS) ht (by rw [hK2 800 (by decide)]; exact hn) h3 (fun i hi => by rw [hK2 805 (by decide)]; exact hT i hi) h9 (by omega) hall) (fun q hq => ?_)
        obtain ⟨b, hb, rfl⟩ := hq
        refine gK_v ?_
        refine g_if1 (i' := 38) (P := ¬ b = true) rfl rfl g_eqB (fun hbf => ?_) (fun hbt => ?_)
        · refine gW_eq ?_ rfl rfl (ih s2 hK2 hs2 hd2)
          rw [show sm1 (fun v => ifN (fitO T (sn S 9) (tl / 3) d (uN w d v)) (cO T (sn S 9) (tl / 3) k (d + 1) (uN w d v)) 0) (v + 1 + 1) = sm1 (fun v => ifN (fitO T (sn S 9) (tl / 3) d (uN w d v)) (cO T (sn S 9) (tl / 3) k (d + 1) (uN w d v)) 0) (v + 1) + ifN (fitO T (sn S 9) (tl / 3) d (uN w d (v + 1))) (cO T (sn S 9) (tl / 3) k (d + 1) (uN w d (v + 1))) 0 from rfl, ifN_f (fun h => hbf (hb.mpr h))]
          rfl
        · have hfit := hb.mp (Classical.not_not.mp hbt)
          have eF : sm1 (fun v => ifN (fitO T (sn S 9) (tl / 3) d (uN w d v)) (cO T (sn S 9) (tl / 3) k (d + 1) (uN w d v)) 0) (v + 1 + 1) = sm1 (fun v => ifN (fitO T (sn S 9) (tl / 3) d (uN w d v)) (cO T (sn S 9) (tl / 3) k (d + 1) (uN w d v)) 0) (v + 1) + cO T (sn S 9) (tl / 3) k (d + 1) (uN w d (v + 1)) := by
            rw [show sm1 (fun v => ifN (fitO T (sn S 9) (tl / 3) d (uN w d v)) (cO T (sn S 9) (tl / 3) k (d + 1) (uN w d v)) 0) (v + 1 + 1) = sm1 (fun v => ifN (fitO T (sn S 9) (tl / 3) d (uN w d v)) (cO T (sn S 9) (tl / 3) k (d + 1) (uN w d v)) 0) (v + 1) + ifN (fitO T (sn S 9) (tl / 3) d (uN w d (v + 1))) (cO T (sn S 9) (tl / 3) k (d + 1) (uN w d (v + 1))) 0 from rfl, ifN_t hfit]
          refine b_296_61 hI ((hK2 801 (by decide)).trans hS) (by omega) (fun hlast s3 e3 => ?_) (fun hlast => ?_)
          · obtain ⟨k2, rfl⟩ : ∃ k2, k = k2 + 1 := ⟨k - 1, by omega⟩
            refine ihk k2 (by omega) (d + 1) (uN w d (v + 1)) _ s3 (by omega) (by omega) (by rw [uN_ne (by omega)]; exact hw0) (fun a ha => (hall a (by omega)).2) (fun c hc => by rw [e3, mu_ne hc]; exact hK2 c hc) (fun a ha => by rw [e3, mu_idx (by omega)]; exact (hall a (by omega)).1) (by rw [e3, mu_self]; rfl) (fun s4 hK4 hs4 => ?_)
            rw [show d + 1 - 1 = d by omega, Nat.add_assoc, ← eF]
            exact ih s4 hK4 (fun a ha => by rw [hs4 a (by omega), uN_ne (by omega)]) (by rw [hs4 d (by omega), uN_self])
          · have hk0 : k = 0 := by omega
            subst hk0
            refine gW_eq ?_ rfl rfl (ih s2 hK2 hs2 hd2)
            rw [eF]
            rfl
      · rw [e2, mu_self, hI.c9, nI_eq (by omega) (by omega)] at he
        omega
    · intro _ s hK hs hsd
      have eS : s 801 = S := (hK 801 (by decide)).trans hS
      refine b_296_38 (v := sn S 9 - 1) hI eS (by omega) hsd (by omega) (fun h => by omega) (fun _ s2 e2 hne => ?_) (fun _ s2 e2 he => ?_)
      · exfalso
        apply hne
        rw [e2, mu_self, hI.c9]
        congr 1
        omega
      · rw [g_dec rfl (by omega), show sn S 9 - 1 + 1 = sn S 9 by omega]
        exact hout s2 (fun c hc => by rw [e2, mu_ne hc]; exact hK c hc) (fun a ha => by rw [e2, mu_idx (by omega)]; exact hs a ha)
theorem m_tables {X : Nat × (Nat → Int32)} {d : Nat} {p : Nat → Nat} {sg : Mg} {B : Nat} {A : AS} (hI : RI B A) (hR : RM A sg) : gF X (d + 6) 296 [vR 800] p sg (mR (useA A) (useA A) (tablesR A) p sg) := by
  have b0 := hI.1.b0; have b9 := hI.1.b9
  have ht := hI.2.2.2.2.2.2.1
  have h7 := hR.2.2.2.2.2.2.1
  refine g_in (cd := k_296) (nL := 3) (rc := 13) rfl (g_A (a := 800) (kd := 0) (n := 12) rfl (by decide)) (g_c1 rfl) (b_296_0 hI.1 hR.1 hI hR (fun s1 h1 hc h9 s5 e5 => ?_) (fun s1 h1 hc h9 => ?_) (fun s1 h1 hc s6 e6 => ?_))
  · have hP := clP_of hc
    have hS1 : s1 801 = A.S := (h1.1 801 (by decide)).trans hR.1
    have hT1 : ∀ i, i < A.tl → s1 805 i = A.T i ∧ okx (A.T i) (sn A.S 9) := fun i hi => ⟨by rw [h1.1 805 (by decide)]; exact h7 i hi, hP.2 i hi⟩
    have h8 : ∀ s, KM s1 s → ∀ c, c < 800 ∨ 900 ≤ c → s c = sg c := fun s hK c hc => by rw [hK c (by omega)]; exact h1.1 c (by omega)
    have hRu : ∀ s, KM s1 s → RM (useA A) s := fun s hK => (hR.ue h1).ext (fun c hc => hK c (by omega)) (fun k hk => by rw [hK 800 (by decide)])
    have h00 : ∀ s, KM s1 s → s 800 0 = 0 := fun s hK => by rw [hK 800 (by decide)]; exact h1.2.2.1
    have hK5 : KM s1 s5 := fun c hc => by rw [e5, mu_ne hc]
    have e0 : ∀ i, i ≤ 0 → s5 814 i = nI (w00 i) ∧ w00 i < sn A.S 9 := fun i hi => by
      have : i = 0 := by omega
      subst this
      exact ⟨by rw [e5, mu_self]; rfl, by unfold w00; omega⟩
    refine g_pure 1 (i' := 25) (lv' := [some (vR 800), none, none]) (st' := [vI (nI 0), vR 800]) rfl ?_
    refine g_calV rfl (args := [vR 800, vI (nI 0)]) (rest := []) rfl rfl (Nat.zero_le _) (s_297 (d := d + 2) (w := w00) hI.1 ((hK5 801 (by decide)).trans hS1) ht (by rw [hK5 800 (by decide)]; exact h1.2.2.2.2) hP.1 (fun i hi => by rw [hK5 805 (by decide)]; exact hT1 i hi) h9 (by omega) e0) (fun q hq => ?_)
    obtain ⟨b, hb, rfl⟩ := hq
    refine gK_v ?_
    refine g_if1 (i' := 29) (P := b = true) rfl rfl g_neB (fun hbt => ?_) (fun hbf => ?_)
    · refine g_pure 8 (i' := 37) (lv' := [some (vR 800), some (vI (nI 0)), some (vI (nI 1))]) (st' := [vI (nI 0), vI (nI 1), vR 814]) rfl ?_
      refine g_ast rfl (g_A (a := 814) (kd := 1) (n := 16) rfl (by decide)) (by decide) rfl (by decide) ?_
      obtain ⟨k, hk⟩ : ∃ k, 1 + (k + 1) = sn A.S 9 := ⟨sn A.S 9 - 2, by omega⟩
      refine l_296 (s1 := s1) (T := A.T) (tl := A.tl) hI.1 hS1 ht h1.2.2.2.2 hP.1 hT1 h9 (d0 := d) k 1 w00 0 _ hk (Nat.le_refl _) rfl (fun a ha => by unfold w00; omega) (fun c hc => by rw [mu_ne hc]; exact hK5 c hc) (fun a ha => ?_) mu_self (fun s' hK' hs' => ?_)
      · rw [mu_idx (by omega)]
        exact (e0 a (by omega)).1
      · refine b_296_38 (v := 0) hI.1 ((hK' 801 (by decide)).trans hS1) (by omega) (by rw [hs' 0 (by decide)]; rfl) (by omega) (fun _ => mR_v (hRu s' hK') (h8 s' hK') (h00 s' hK') ?_) (fun h => by omega) (fun h => by omega)
        unfold tablesR ordN
        rw [if_pos hc, if_neg (by omega), ifN_t (hb.mp hbt), show sn A.S 9 - 1 = k + 1 by omega, Nat.zero_add]
    · refine g_pure 1 (i' := 28) (lv' := [some (vR 800), none, none]) (st' := [vI 0]) rfl ?_
      refine g_iret rfl (mR_v (hRu s5 hK5) (h8 s5 hK5) (h00 s5 hK5) ?_)
      unfold tablesR ordN
      rw [if_pos hc, if_neg (by omega), ifN_f (fun h => hbf (hb.mpr h))]
      rfl
  · refine mR_v (hR.ue h1) (fun c hc => h1.1 c (by omega)) h1.2.2.1 ?_
    unfold tablesR
    rw [if_pos hc, if_pos (by omega)]
  · refine mR_x ((hR.ue h1).th e6) (fun c hc => by rw [e6, up_hi hc]; exact h1.1 c (by omega)) (c := 0) (by rw [e6, mu_self]) ?_
    unfold tablesR
    rw [if_neg hc]
