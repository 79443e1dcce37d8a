/-! A DAWN MORE: the reference (made by wip/whole/gen69.py) -/
/-- what the reference's dawns may write -/
def FR (sg s : Mg) : Prop := ∀ c, c ≠ 801 → c ≠ 807 → c ≠ 808 → s c = sg c
theorem FR.rf (sg : Mg) : FR sg sg := fun _ _ _ _ => rfl
theorem FR.tr {a b c : Mg} (h : FR a b) (g : FR b c) : FR a c := fun x h1 h2 h3 => (g x h1 h2 h3).trans (h x h1 h2 h3)
theorem FR.up (sg : Mg) (f : Nat → Int32) : FR sg (va_up sg 801 f) := fun _ h _ _ => va_up_ne _ _ h
theorem s_267x {X : Nat × (Nat → Int32)} {d : Nat} {p : Nat → Nat} {sg : Mg} {B : Nat} {S : Nat → Int32} (hI : Inv B S) (hS : sg 801 = S) {k : Nat} (hk : k < sn S 1) (hv : S (113 + 6 * k) = -1) : gF X (d + 7) 267 [vR 800, vI (nI k)] p sg (fun r => r = gRv p sg (nI 0)) := by
  have b1 := hI.b1
  exact g_in (cd := k_267) (nL := 8) (rc := 13) rfl (g_A (a := 800) (kd := 0) (n := 12) rfl (by decide)) (g_c1 rfl) (b_267_x hI hS (by omega) hk hv rfl)
theorem s_267a {X : Nat × (Nat → Int32)} {d : Nat} {p : Nat → Nat} {sg : Mg} {B : Nat} {S : Nat → Int32} (hI : Inv B S) (hS : sg 801 = S) (hA : InvA S) {k : Nat} (hk : k < sn S 1) : gF X (d + 7) 267 [vR 800, vI (nI k)] p sg (fun r => ∃ v, r.2.1 = .inl (some (vI v)) ∧ ∃ s, (FR sg s ∧ s 801 = (if S (113 + 6 * k) = -1 then S else (lvA S k (sn S (113 + 6 * k))).1) ∧ v = nI (if S (113 + 6 * k) = -1 then 0 else (lvA S k (sn S (113 + 6 * k))).2)) ∧ r = gRv p s v) := by
  by_cases h : S (113 + 6 * k) = -1
  · refine gF_mono (s_267x hI hS hk h) (fun r hr => ?_)
    rw [hr, if_pos h, if_pos h]
    exact ⟨_, rfl, sg, ⟨FR.rf _, hS, rfl⟩, rfl⟩
  · have hw : isN S (113 + 6 * k) (sn S 0) := by
      rcases (hI.per hk).1 with h9 | h9
      · exact h9.1
      · exact absurd h9.1 h
    refine gF_mono (s_267 hI hS hA hk hw.1 hw.2) (fun r hr => ?_)
    obtain ⟨f, hr⟩ := hr
    rw [hr, if_neg h, if_neg h]
    refine ⟨_, rfl, _, ⟨fun c h1 h2 _ => ?_, va_up_self _ _ _, rfl⟩, rfl⟩
    rw [va_up_ne _ _ h1, va_up_ne _ _ h2]

theorem l_263_18 {X : Nat × (Nat → Int32)} {d : Nat} {p : Nat → Nat} {sg : Mg} {B : Nat} {S : Nat → Int32} (hI : Inv B S) (hS : sg 801 = S) {Q : am_R → Prop} {z2 : Option AV} (x : gW X (d + 7) k_263 27 [some (vR 800), some (vI (nI (sn S 1))), z2] [] p (va_up sg 801 (arA S (sn S 1))) Q) :
    gW X (d + 7) k_263 18 [some (vR 800), some (vI (nI 0)), z2] [] p sg Q := by
  have b1 := hI.b1
  have key := g_upI (P := fun k => gW X (d + 7) k_263 18 [some (vR 800), some (vI (nI k)), z2] [] p (va_up sg 801 (arA S k)) Q) (I := fun _ => True) (n := sn S 1) (a := 0) (by omega) trivial ?_ ?_
  · have key : gW X (d + 7) k_263 18 [some (vR 800), some (vI (nI 0)), z2] [] p (va_up sg 801 S) Q := key
    rw [← hS, va_up_same] at key
    exact key
  · intro k _ hk _ ih
    have ih := ih trivial
    obtain ⟨hT, hT2⟩ := arA_inv hI k (by omega)
    rw [show arA S (k + 1) = arS (arA S k) k from rfl] at ih
    have t1 : sn (arA S k) 1 = sn S 1 := sn_eq (hT2 1 (by omega))
    generalize arA S k = T at hT t1 ih
    refine g_pure 2 (i' := 20) (lv' := [some (vR 800), some (vI (nI k)), z2]) (st' := [vR 800, vI (nI k)]) rfl ?_
    refine g_cV1 rfl (args := [vR 800]) (rest := [vI (nI k)]) rfl rfl rfl (s_203 (d := d + 6) (va_up_self _ _ _)) ?_
    refine g_if2 (i' := 27) (P := sn T 1 ≤ k) rfl rfl (g_geN rfl hT.c1 (by omega) (by omega)) (fun h => by omega) (fun _ => ?_)
    refine g_pure 2 (i' := 24) (lv' := [some (vR 800), some (vI (nI k)), z2]) (st' := [vI (nI k), vR 800]) rfl ?_
    refine g_cV0 rfl (args := [vR 800, vI (nI k)]) (rest := []) rfl rfl rfl (s_266 (d := d + 5) hT (va_up_self _ _ _) (by omega)) ?_
    refine g_pure 2 (i' := 18) (lv' := [some (vR 800), some (vI (nI k + 1)), z2]) (st' := []) rfl ?_
    refine gW_eq (lv' := [some (vR 800), some (vI (nI (k + 1))), z2]) (by rw [nI_succ]) rfl (by rw [va_up2]) ih
  · intro _
    obtain ⟨hT, hT2⟩ := arA_inv hI (sn S 1) (by omega)
    have t1 : sn (arA S (sn S 1)) 1 = sn S 1 := sn_eq (hT2 1 (by omega))
    generalize arA S (sn S 1) = T at hT t1 x
    refine g_pure 2 (i' := 20) (lv' := [some (vR 800), some (vI (nI (sn S 1))), z2]) (st' := [vR 800, vI (nI (sn S 1))]) rfl ?_
    refine g_cV1 rfl (args := [vR 800]) (rest := [vI (nI (sn S 1))]) rfl rfl rfl (s_203 (d := d + 6) (va_up_self _ _ _)) ?_
    exact g_if2 (i' := 27) (P := sn T 1 ≤ sn S 1) rfl rfl (g_geN rfl hT.c1 (by omega) (by omega)) (fun _ => x) (fun h => by omega)
theorem l_263_31 {X : Nat × (Nat → Int32)} {d : Nat} {p : Nat → Nat} {sg : Mg} {B : Nat} {S : Nat → Int32} (hI : Inv B S) (hS : sg 801 = S) (hA : InvA S) {Q : am_R → Prop} (x : ∀ s, FR sg s → s 801 = (lvL S (sn S 1)).1 → gW X (d + 7) k_263 43 [some (vR 800), some (vI (nI (lvL S (sn S 1)).2)), some (vI (nI (sn S 1)))] [] p s Q) :
    gW X (d + 7) k_263 31 [some (vR 800), some (vI (nI 0)), some (vI (nI 0))] [] p sg Q := by
  have b1 := hI.b1
  have key := g_upI (P := fun k => ∀ s, FR sg s → s 801 = (lvL S k).1 → gW X (d + 7) k_263 31 [some (vR 800), some (vI (nI (lvL S k).2)), some (vI (nI k))] [] p s Q) (I := fun _ => True) (n := sn S 1) (a := 0) (by omega) trivial ?_ ?_
  · exact key sg (FR.rf _) hS
  · intro k _ hk _ ih s f e
    have ih := ih trivial
    obtain ⟨hT, hT1, hT2⟩ := lvL_inv hI k (by omega)
    rw [show lvL S (k + 1) = if (lvL S k).1 (113 + 6 * k) = -1 then lvL S k else ((lvA (lvL S k).1 k (sn (lvL S k).1 (113 + 6 * k))).1, (lvL S k).2 + (lvA (lvL S k).1 k (sn (lvL S k).1 (113 + 6 * k))).2) from rfl] at ih
    have t1 : sn (lvL S k).1 1 = sn S 1 := sn_eq (hT2 1 (by unfold kpI; omega))
    have hAT : InvA (lvL S k).1 := hA.ext (fun i hi => hT2 i (by unfold kpI; omega))
    generalize lvL S k = T at e hT t1 ih hAT
    refine g_pure 2 (i' := 33) (lv' := [some (vR 800), some (vI (nI T.2)), some (vI (nI k))]) (st' := [vR 800, vI (nI k)]) rfl ?_
    refine g_cV1 rfl (args := [vR 800]) (rest := [vI (nI k)]) rfl rfl rfl (s_203 (d := d + 6) e) ?_
    refine g_if2 (i' := 43) (P := sn T.1 1 ≤ k) rfl rfl (g_geN rfl hT.c1 (by omega) (by omega)) (fun h => by omega) (fun _ => ?_)
    refine g_pure 3 (i' := 38) (lv' := [some (vR 800), some (vI (nI T.2)), some (vI (nI k))]) (st' := [vI (nI k), vR 800, vI (nI T.2)]) rfl ?_
    by_cases h : T.1 (113 + 6 * k) = -1
    · rw [if_pos h] at ih
      refine g_cV1 rfl (args := [vR 800, vI (nI k)]) (rest := [vI (nI T.2)]) rfl rfl rfl (s_267x (d := d) hT e (by omega) h) ?_
      refine g_pure 4 (i' := 31) (lv' := [some (vR 800), some (vI (nI T.2 + nI 0)), some (vI (nI k + 1))]) (st' := []) rfl ?_
      refine gW_eq (lv' := [some (vR 800), some (vI (nI T.2)), some (vI (nI (k + 1)))]) (by rw [nI_succ, show nI 0 = 0 from rfl, Int32.add_zero]) rfl rfl (ih s f e)
    · rw [if_neg h] at ih
      have hw : isN T.1 (113 + 6 * k) (sn T.1 0) := by
        rcases (hT.per (show k < sn T.1 1 by omega)).1 with h9 | h9
        · exact h9.1
        · exact absurd h9.1 h
      have hc := s_267 (X := X) (p := p) (d := d) hT e hAT (k := k) (by omega) hw.1 hw.2
      dsimp only at ih
      generalize lvA T.1 k (sn T.1 (113 + 6 * k)) = U at ih hc
      refine g_cV1E (P := fun s1 => ∃ f, s1 = va_up (va_up s 807 f) 801 U.1) (p' := p) (v := nI U.2) rfl (args := [vR 800, vI (nI k)]) (rest := [vI (nI T.2)]) rfl rfl rfl (gF_mono hc (fun r hr => by obtain ⟨f, hr⟩ := hr; exact ⟨_, ⟨f, rfl⟩, hr⟩)) (fun s1 g1 => ?_)
      obtain ⟨f1, rfl⟩ := g1
      refine g_pure 4 (i' := 31) (lv' := [some (vR 800), some (vI (nI T.2 + nI U.2)), some (vI (nI k + 1))]) (st' := []) rfl ?_
      refine gW_eq (lv' := [some (vR 800), some (vI (nI (T.2 + U.2))), some (vI (nI (k + 1)))]) (by rw [nI_succ, nI_add]) rfl rfl (ih _ (f.tr (fun c h1 h2 _ => by rw [va_up_ne _ _ h1, va_up_ne _ _ h2])) (va_up_self _ _ _))
  · intro _ s f e
    obtain ⟨hT, hT1, hT2⟩ := lvL_inv hI (sn S 1) (by omega)
    have t1 : sn (lvL S (sn S 1)).1 1 = sn S 1 := sn_eq (hT2 1 (by unfold kpI; omega))
    generalize lvL S (sn S 1) = T at hT t1 x e
    refine g_pure 2 (i' := 33) (lv' := [some (vR 800), some (vI (nI T.2)), some (vI (nI (sn S 1)))]) (st' := [vR 800, vI (nI (sn S 1))]) rfl ?_
    refine g_cV1 rfl (args := [vR 800]) (rest := [vI (nI (sn S 1))]) rfl rfl rfl (s_203 (d := d + 6) e) ?_
    exact g_if2 (i' := 43) (P := sn T.1 1 ≤ sn S 1) rfl rfl (g_geN rfl hT.c1 (by omega) (by omega)) (fun _ => x s f e) (fun h => by omega)
theorem l_263_50 {X : Nat × (Nat → Int32)} {d : Nat} {p : Nat → Nat} {sg : Mg} {B : Nat} {S : Nat → Int32} (hI : Inv B S) (hS : sg 801 = S) {Q : am_R → Prop} {a : Int32} (x : Q (gRv p (va_up sg 801 (stA S (sn S 4))) a)) :
    gW X (d + 7) k_263 50 [some (vR 800), some (vI a), some (vI (nI 0))] [] p sg Q := by
  have b4 := hI.b4
  have key := g_upI (P := fun k => gW X (d + 7) k_263 50 [some (vR 800), some (vI a), some (vI (nI k))] [] p (va_up sg 801 (stA S k)) Q) (I := fun _ => True) (n := sn S 4) (a := 0) (by omega) trivial ?_ ?_
  · have key : gW X (d + 7) k_263 50 [some (vR 800), some (vI a), some (vI (nI 0))] [] p (va_up sg 801 S) Q := key
    rw [← hS, va_up_same] at key
    exact key
  · intro k _ hk _ ih
    have ih := ih trivial
    obtain ⟨hT, hT2⟩ := stA_inv hI k (by omega)
    rw [show stA S (k + 1) = stD (stA S k) k from rfl] at ih
    have t4 : sn (stA S k) 4 = sn S 4 := sn_eq (hT2 4 (by unfold kpI; omega))
    generalize stA S k = T at hT t4 ih
    refine g_pure 4 (i' := 54) (lv' := [some (vR 800), some (vI a), some (vI (nI k))]) (st' := [vI 4, vR 801, vI (nI k)]) rfl ?_
    refine g_ald rfl (g_A (a := 801) (kd := 1) (n := 2407) rfl (by decide)) (by decide) (show (4 : Int32) = nI 4 from rfl) (by decide) ((congrFun (va_up_self _ _ _) 4).trans hT.c4) ?_
    refine g_if2 (i' := 61) (P := sn T 4 ≤ k) rfl rfl (g_geN rfl rfl (by omega) (by omega)) (fun h => by omega) (fun _ => ?_)
    refine g_pure 2 (i' := 58) (lv' := [some (vR 800), some (vI a), some (vI (nI k))]) (st' := [vI (nI k), vR 800]) rfl ?_
    refine g_cV0 rfl (args := [vR 800, vI (nI k)]) (rest := []) rfl rfl rfl (s_269 (d := d + 4) hT (va_up_self _ _ _) (by omega)) ?_
    refine g_pure 2 (i' := 50) (lv' := [some (vR 800), some (vI a), some (vI (nI k + 1))]) (st' := []) rfl ?_
    refine gW_eq (lv' := [some (vR 800), some (vI a), some (vI (nI (k + 1)))]) (by rw [nI_succ]) rfl (by rw [va_up2]) ih
  · intro _
    obtain ⟨hT, hT2⟩ := stA_inv hI (sn S 4) (by omega)
    have t4 : sn (stA S (sn S 4)) 4 = sn S 4 := sn_eq (hT2 4 (by unfold kpI; omega))
    generalize stA S (sn S 4) = T at hT t4 x
    refine g_pure 4 (i' := 54) (lv' := [some (vR 800), some (vI a), some (vI (nI (sn S 4)))]) (st' := [vI 4, vR 801, vI (nI (sn S 4))]) rfl ?_
    refine g_ald rfl (g_A (a := 801) (kd := 1) (n := 2407) rfl (by decide)) (by decide) (show (4 : Int32) = nI 4 from rfl) (by decide) ((congrFun (va_up_self _ _ _) 4).trans hT.c4) ?_
    refine g_if2 (i' := 61) (P := sn T 4 ≤ sn S 4) rfl rfl (g_geN rfl rfl (by omega) (by omega)) (fun _ => ?_) (fun h => by omega)
    refine g_pure 1 (i' := 62) (lv' := [some (vR 800), some (vI a), some (vI (nI (sn S 4)))]) (st' := [vI a]) rfl ?_
    exact g_iret rfl x
theorem s_263 {X : Nat × (Nat → Int32)} {d : Nat} {p : Nat → Nat} {sg : Mg} {B : Nat} {S : Nat → Int32} (hI : Inv B S) (hS : sg 801 = S) (hA : InvA S) (hs : Str S) (hB : B + 1 ≤ 200000) : gF X (d + 8) 263 [vR 800] p sg (fun r => ∃ s, (FR sg s ∧ s 801 = dw6 S) ∧ r = gRv p s (nI (dwN S))) := by
  have b8 := hI.b8
  have h1 := hI.tmI hs hB
  obtain ⟨h2, k2⟩ := dw2_inv hI hs hB
  obtain ⟨h3, k3, _⟩ := dw3_inv hI hs hB
  obtain ⟨h4, _, k4⟩ := dw4_inv hI hs hB
  obtain ⟨h5, k5⟩ := dw5_inv hI hs hB
  refine g_in (cd := k_263) (nL := 3) (rc := 13) rfl (g_A (a := 800) (kd := 0) (n := 12) rfl (by decide)) (g_c1 rfl) ?_
  show gW X (d + 7) k_263 0 [some (vR 800), none, none] [] p sg _
  refine g_pure 4 (i' := 4) (lv' := [some (vR 800), none, none]) (st' := [vI 8, vR 801, vI 8, vR 801]) rfl ?_
  refine g_ald rfl (g_A (a := 801) (kd := 1) (n := 2407) rfl (by decide)) (by decide) (show (8 : Int32) = nI 8 from rfl) (by decide) (congrFun hS 8) ?_
  refine g_pure 2 (i' := 7) (lv' := [some (vR 800), none, none]) (st' := [vI (S 8 + 1), vI 8, vR 801]) rfl ?_
  refine g_ast rfl (g_A (a := 801) (kd := 1) (n := 2407) rfl (by decide)) (by decide) (show (8 : Int32) = nI 8 from rfl) (by decide) ?_
  have e8 : S 8 + 1 = nI (sn S 8 + 1) := by rw [hI.c8, nI_succ, sn_eq (S := S) rfl]
  rw [e8]
  have e1 : mu sg 801 8 (nI (sn S 8 + 1)) = va_up sg 801 (tmS S) := by unfold mu; rw [hS]; rfl
  rw [e1]
  have t8 := h1.b8
  have t9 := h1.b9
  have hm := Nat.mod_lt (sn (tmS S) 8) (show 0 < sn (tmS S) 9 by omega)
  refine g_pure 1 (i' := 9) (lv' := [some (vR 800), none, none]) (st' := [vR 800]) rfl ?_
  refine g_cV1 rfl (args := [vR 800]) (rest := []) rfl rfl rfl (s_248 (d := d + 6) (va_up_self _ _ _)) ?_
  refine g_pure 1 (i' := 11) (lv' := [some (vR 800), none, none]) (st' := [vR 800, vI (tmS S 8)]) rfl ?_
  refine g_cV1 rfl (args := [vR 800]) (rest := [vI (tmS S 8)]) rfl rfl rfl (s_199 (d := d + 6) (va_up_self _ _ _)) ?_
  refine g_rem rfl (by rw [h1.c9]; exact nI_ne0 (by omega) (by omega)) ?_
  refine gW_eq (st' := [vI (nI (sn (tmS S) 8 % sn (tmS S) 9))]) rfl (by rw [g_modN h1.c8 h1.c9 (by omega) (by omega) (by omega)]) rfl ?_
  have join : gW X (d + 7) k_263 16 [some (vR 800), none, none] [] p (va_up sg 801 (dw2 S)) (fun r => ∃ s, (FR sg s ∧ s 801 = dw6 S) ∧ r = gRv p s (nI (dwN S))) := by
    refine g_pure 2 (i' := 18) (lv' := [some (vR 800), some (vI (nI 0)), none]) (st' := []) rfl ?_
    refine l_263_18 h2 (va_up_self _ _ _) ?_
    rw [va_up2]
    refine g_pure 4 (i' := 31) (lv' := [some (vR 800), some (vI (nI 0)), some (vI (nI 0))]) (st' := []) rfl ?_
    have a3 : InvA (dw3 S) := hA.ext (fun i hi => (k3 i (by omega)).trans (tmS_ne (by omega)))
    refine l_263_31 (S := dw3 S) h3 (va_up_self _ _ _) a3 (fun s4 f4 e4 => ?_)
    have e4 : s4 801 = (dw4 S).1 := e4
    have a4 : InvA (dw4 S).1 := a3.ext (fun i hi => k4 i (by unfold kpI; omega))
    show gW X (d + 7) k_263 43 [some (vR 800), some (vI (nI (dw4 S).2)), some (vI (nI (sn (dw3 S) 1)))] [] p s4 _
    refine g_pure 2 (i' := 45) (lv' := [some (vR 800), some (vI (nI (dw4 S).2)), some (vI (nI (sn (dw3 S) 1)))]) (st' := [vR 800, vI (nI (dw4 S).2)]) rfl ?_
    refine g_cV1E rfl (args := [vR 800]) (rest := [vI (nI (dw4 S).2)]) rfl rfl rfl (s_268 (d := d) h4 e4 a4) (fun s5 g5 => ?_)
    obtain ⟨f5, e5⟩ := g5
    have e5 : s5 801 = (dw5 S).1 := e5
    refine g_pure 4 (i' := 50) (lv' := [some (vR 800), some (vI (nI (dw4 S).2 + nI (dw5 S).2)), some (vI (nI 0))]) (st' := []) rfl ?_
    rw [nI_add]
    refine l_263_50 h5 e5 ⟨_, ⟨?_, va_up_self _ _ _⟩, rfl⟩
    exact (((FR.up _ _).tr f4).tr f5).tr (FR.up _ _)
  refine g_if1 (i' := 16) (P := ¬ sn (tmS S) 8 % sn (tmS S) 9 = 0) rfl rfl (g_neN rfl rfl (by omega) (by omega)) (fun h => ?_) (fun h => ?_)
  · unfold dw2 at join
    rw [if_neg h] at join
    exact join
  · have h := Decidable.not_not.mp h
    unfold dw2 at join
    rw [if_pos h] at join
    refine g_pure 1 (i' := 15) (lv' := [some (vR 800), none, none]) (st' := [vR 800]) rfl ?_
    refine g_cV0 rfl (args := [vR 800]) (rest := []) rfl rfl rfl (s_264 (d := d + 4) h1 (va_up_self _ _ _)) ?_
    rw [va_up2]
    exact join
