/-! LAW: atoms, in the class (made by wip/whole/gen89zzf.py) -/
section
variable {X : Nat × (Nat → Int32)} {p : Nat → Nat} {T : Nat → Int32} {n : Nat}
theorem isW_c {k : Nat} (hk : k ≤ n) {c : Int32} (hc : sgn c) : isW T n k [c] ↔ isG T n k c := by
  have hx := nxK_ok (T := T) hk
  constructor
  · intro h
    have h1 : nxK T n k - spK T n k = 1 := h.1
    have h2 := h.2 0 (by show 0 < 1; decide)
    refine ⟨?_, h2⟩
    by_cases c9 : spK T n k < n
    · exact c9
    · have h3 : nxK T n k = spK T n k := by unfold nxK enK; rw [if_neg c9]
      omega
  · intro h
    have h1 := nxK_G hc h
    refine ⟨by rw [h1]; show spK T n k + 1 - spK T n k = 1; omega, fun i hi => ?_⟩
    have : i = 0 := by have hi : i < 1 := hi; omega
    subst this
    exact h.2
theorem sgn_lt : sgn 60 := ⟨by decide, by decide⟩
theorem sgn_gt : sgn 62 := ⟨by decide, by decide⟩
theorem sgn_op : sgn 40 := ⟨by decide, by decide⟩
theorem sgn_cl : sgn 41 := ⟨by decide, by decide⟩
theorem sgn_pl : sgn 43 := ⟨by decide, by decide⟩
/-- a comparison -/
theorem c_72 {d k : Nat} {sg0 s : Mg} {E : LE} {z1 z2 : Option AV} (hT : CT T n k s) (hCd : LCd E s) (hF : FL sg0 s) (hE : E.length + 1 ≤ k) : gW X (d + 4) k_52 72 [some (vR 5), z1, z2, none] [vR 5] p s (lnL (pCmp T n k E) T n sg0 p) := by
  have hk := hT.1
  have hn := hT.2.1
  have e0 : pCmp T n k E = bnL (pSum T n k E) (fun k1 E1 => sel (isG T n k1 60 ∨ isG T n k1 62) (bnL (pSum T n (nxK T n k1) E1) (fun k2 E2 => .inr (k2, E2 ++ [(sel (isG T n k1 60) 12 13, 0)]))) (.inl (spK T n k1))) := rfl
  refine lnL_call rfl (args := [vR 5]) (rest := []) rfl rfl (Nat.zero_le _) hF (s_53 (d := d) hT hCd hE) (fun e r he hr => by rw [e0, bnL_l he]; exact hr) (fun q s4 hq hF4 hT4 hC4 => ?_)
  have g1 := pSum_g hk E q.1 q.2 hq
  rw [e0, bnL_r (k := q.1) (E := q.2) hq]
  have sec : ∀ s5 : Mg, (isG T n q.1 60 ∨ isG T n q.1 62) → CT T n (nxK T n q.1) s5 → LCd q.2 s5 → FL sg0 s5 → gW X (d + 4) k_52 87 [some (vR 5), z1, z2, some (vI (if dcN (isG T n q.1 60) = true then 1 else 0))] [vR 5] p s5 (lnL (sel (isG T n q.1 60 ∨ isG T n q.1 62) (bnL (pSum T n (nxK T n q.1) q.2) (fun k2 E2 => .inr (k2, E2 ++ [(sel (isG T n q.1 60) 12 13, 0)]))) (.inl (spK T n q.1))) T n sg0 p) := fun s5 c cT cC cF => by
    have g2 : q.1 < nxK T n q.1 ∧ nxK T n q.1 ≤ n ∧ spK T n q.1 < n := c.elim (nx_g g1.2.1) (nx_g g1.2.1)
    rw [sel_t c]
    refine lnL_call rfl (args := [vR 5]) (rest := []) rfl rfl (Nat.zero_le _) cF (s_53 (d := d) cT cC (by omega)) (fun e r he hr => by rw [bnL_l he]; exact hr) (fun v s6 hv hF6 hT6 hC6 => ?_)
    have g3 := pSum_g g2.2.1 q.2 v.1 v.2 hv
    rw [bnL_r (k := v.1) (E := v.2) hv]
    refine b_52_88 (d := d) hT6 hC6 hF6 (W := dcN (isG T n q.1 60) = true) (fun _ => by omega) (fun h s7 e7 cT7 cC7 cF7 => ?_) (fun _ => by omega) (fun h s7 e7 cT7 cC7 cF7 => ?_)
    · refine ⟨s7, ⟨cF7, cT7, ?_⟩, rfl⟩
      show LCd (v.2 ++ [(sel (isG T n q.1 60) 12 13, 0)]) s7
      rw [sel_f (dcN_n.mp h)]
      exact cC7
    · refine ⟨s7, ⟨cF7, cT7, ?_⟩, rfl⟩
      show LCd (v.2 ++ [(sel (isG T n q.1 60) 12 13, 0)]) s7
      rw [sel_t (dcN_i.mp h)]
      exact cC7
  refine b_52_73 (d := d) hT4 hC4 hF4 (fun c1 c2 s5 e5 cT cC cF => ?_) (fun c1 c2 s5 e5 cT cC cF => ?_) (fun c1 c2 s5 e5 cT cC cF => ?_) (fun c1 c2 s5 e5 cT cC cF => ?_)
  · exact sec s5 (Or.inr ((isW_c hT4.1 sgn_gt).mp c2)) cT cC cF
  · rw [sel_f (fun h => h.elim (dcN_n.mp c1) (fun h => c2 ((isW_c hT4.1 sgn_gt).mpr h)))]
    exact LFl.of cF e5
  · exact sec s5 (Or.inl (dcN_i.mp c1)) cT cC cF
  · exact absurd ((isW_c hT4.1 sgn_lt).mpr (dcN_i.mp c1)) c2
theorem pAtm_b {r k : Nat} {E : LE} (h1 : ¬ isW T n k (am_SL 21)) (h2 : ¬ isG T n k 40) : pAtm T n r k E = pBase T n k E := by
  cases r with
  | zero => unfold pAtm; rw [sel_f (fun h => h.elim h1 h2)]
  | succ r => unfold pAtm; rw [sel_f h1, sel_f h2]
theorem at_52 : ∀ (r g : Nat), g + r = 6 → ∀ d, AtC X p T n (d + 5 + 2 * r) g (pAtm T n r) := by
  intro r
  induction r using Nat.strongRecOn with
  | ind r ih =>
    intro g hg d sg k E hT hCd hE
    have hk := hT.1
    have hn := hT.2.1
    rw [show d + 5 + 2 * r = d + 2 * r + 4 + 1 by omega]
    refine g_in (cd := k_52) (nL := 4) (rc := 6) rfl (g_A (a := 5) (kd := 0) (n := 5) rfl (by decide)) (g_c1 rfl) (b_52_0 (d := d + 2 * r) hT hCd (FL.rf sg) (by omega) (fun h1 _ _ _ h2 => absurd h1 h2) ?_ ?_ (fun _ _ h1 h2 => absurd h1 h2) (fun _ _ h1 h2 => absurd h1 h2) (fun _ _ _ _ => by omega) ?_ ?_ (fun _ _ _ _ _ => by omega) ?_ (fun _ _ h1 _ h2 => absurd h2 h1) (fun _ _ h1 _ h2 => absurd h2 h1) ?_ (fun h1 _ _ _ _ h2 => absurd h2 h1) ?_)
    · intro h1 h2 s3 e3 _ cT cC cF
      obtain ⟨r2, rfl⟩ : ∃ r2, r = r2 + 1 := ⟨r - 1, by omega⟩
      have c := dcN_i.mp h1
      have g1 := nx_w hk (by decide) c
      have e0 : pAtm T n (r2 + 1) k E = bnL (pAtm T n r2 (nxK T n k) E) (fun k2 E2 => .inr (k2, E2 ++ [(14, 0)])) := sel_t c
      rw [e0]
      refine g_pure 4 (i' := 30) (lv' := [some (vR 5), some (vI (nI g)), some (vI (if dcN (isW T n k (am_SL 21)) = true then 1 else 0)), none]) (st' := [vI (nI g + 1), vR 5]) rfl ?_
      rw [show nI g + 1 = nI (g + 1) from nI_add g 1]
      have hs := ih r2 (by omega) (g + 1) (by omega) (d + 1) s3 (nxK T n k) E cT cC (by omega)
      rw [show d + 1 + 5 + 2 * r2 = d + 2 * (r2 + 1) + 4 by omega] at hs
      refine lnL_call rfl (args := [vR 5, vI (nI (g + 1))]) (rest := []) rfl rfl (Nat.zero_le _) cF hs (fun e r he hr => by rw [bnL_l he]; exact hr) (fun v s6 hv hF6 hT6 hC6 => ?_)
      have g3 := pAtm_g r2 g1.2.1 E v.1 v.2 hv
      rw [bnL_r (k := v.1) (E := v.2) hv]
      refine b_52_31 (d := d + 2 * (r2 + 1)) hT6 hC6 hF6 (by omega) (fun s7 e7 cT7 cC7 cF7 => ⟨s7, ⟨cF7, cT7, cC7⟩, rfl⟩)
    · intro h1 h2 s5 e5 cT cC cF
      have hr : r = 0 := by omega
      subst hr
      have e0 : pAtm T n 0 k E = .inl (spK T n k) := by unfold pAtm; rw [sel_t (Or.inl (dcN_i.mp h1))]
      rw [e0]
      exact LFl.of cF e5
    · intro h1 h2 h3 _ s11 e11 s12 e12 cT cC cF
      rw [pAtm_b (dcN_n.mp h1) (dcN_n.mp h2)]
      unfold pBase
      rw [sel_t (dcN_i.mp h3)]
      exact ⟨s12, ⟨cF, cT, cC⟩, rfl⟩
    · intro h1 h2 h3 h4 cT cC cF
      rw [pAtm_b (dcN_n.mp h1) (dcN_n.mp h2)]
      unfold pBase
      rw [sel_f (dcN_n.mp h3), sel_f (dcN_n.mp h4)]
      exact c_72 (d := d + 2 * r) cT cC cF hE
    · intro h1 h2 h3 h4 _ s15 e15 s16 e16 cT cC cF
      rw [pAtm_b (dcN_n.mp h1) (dcN_n.mp h2)]
      unfold pBase
      rw [sel_f (dcN_n.mp h3), sel_t (dcN_i.mp h4)]
      exact ⟨s16, ⟨cF, cT, cC⟩, rfl⟩
    · intro h1 h2 h3 s20 e20 _ cT cC cF
      obtain ⟨r2, rfl⟩ : ∃ r2, r = r2 + 1 := ⟨r - 1, by omega⟩
      have c := dcN_i.mp h2
      have g1 := nx_g hk c
      have e0 : pAtm T n (r2 + 1) k E = bnL (pCnd T n (pAtm T n r2) (nxK T n k) E) (fun k2 E2 => sel (isG T n k2 41) (.inr (nxK T n k2, E2)) (.inl (spK T n k2))) := by unfold pAtm; rw [sel_f (dcN_n.mp h1), sel_t c]
      rw [e0]
      refine g_pure 4 (i' := 40) (lv' := [some (vR 5), some (vI (nI g)), some (vI (if dcN (isW T n k (am_SL 21)) = true then 1 else 0)), none]) (st' := [vI (nI g + 1), vR 5]) rfl ?_
      rw [show nI g + 1 = nI (g + 1) from nI_add g 1]
      have hA : AtC X p T n (d + 2 * (r2 + 1) - 1 + 4) (g + 1) (pAtm T n r2) := by
        have := ih r2 (by omega) (g + 1) (by omega) d
        rw [show d + 2 * (r2 + 1) - 1 + 4 = d + 5 + 2 * r2 by omega]
        exact this
      have hs := s_51 (d := d + 2 * (r2 + 1) - 1) (fun k hk E => pAtm_g r2 hk E) (by omega) hA cT cC (by omega)
      rw [show d + 2 * (r2 + 1) - 1 + 5 = d + 2 * (r2 + 1) + 4 by omega] at hs
      refine lnL_call rfl (args := [vR 5, vI (nI (g + 1))]) (rest := []) rfl rfl (Nat.zero_le _) cF hs (fun e r he hr => by rw [bnL_l he]; exact hr) (fun v s6 hv hF6 hT6 hC6 => ?_)
      rw [bnL_r (k := v.1) (E := v.2) hv]
      refine b_52_41 (d := d + 2 * (r2 + 1)) hT6 hC6 hF6 (fun c2 s7 e7 cT7 cC7 cF7 => ?_) (fun c2 s7 e7 cT7 cC7 cF7 => ?_)
      · rw [sel_t ((isW_c hT6.1 sgn_cl).mp c2)]
        exact ⟨s7, ⟨cF7, cT7, cC7⟩, rfl⟩
      · rw [sel_f (fun h => c2 ((isW_c hT6.1 sgn_cl).mpr h))]
        exact LFl.of cF7 e7
    · intro h1 h2 h3 s22 e22 cT cC cF
      have hr : r = 0 := by omega
      subst hr
      have e0 : pAtm T n 0 k E = .inl (spK T n k) := by unfold pAtm; rw [sel_t (Or.inr (dcN_i.mp h2))]
      rw [e0]
      exact LFl.of cF e22
end
