/-! THE LAW'S CASES (printed by wip/whole/gen9126.py) -/
/-- feed -/
theorem lc_0 {X : Nat × (Nat → Int32)} {n : Nat} {p : Nat → Nat} {sg : Mg} {kc ks B2 : Nat} {o5 o6 : Option AV} {Q : am_R → Prop} (hX : X.1 < 2147483648) (hn : n + 6 ≤ X.1) {As : AS} {v : Int32} (hw : gF X 41 126 [vR 0, vI (X.2 (n + 1)), vI (X.2 (n + 2)), vI (X.2 (n + 3)), vI (X.2 (n + 4)), vI (X.2 (n + 5))] p sg (cR As As (fun _ => 0) (0, v) sg)) (hm : mOK X B2 182 [vI (X.2 (n + 1)), vI (X.2 (n + 2)), vI (X.2 (n + 3)), vI (X.2 (n + 4)), vI (X.2 (n + 5))] As As (0, v) sg) (nx : NX X n B2 kc ks Q) : hL X 41 k_352 [] K_1 (lwv n o5 o6) [] p sg kc ks Q := by
  refine h_pure 1 (k' := (kl_1.drop 1 ++ K_2)) (lv' := (lwv n o5 o6)) (st' := [vR 0]) rfl ?_
  refine h_pure 4 (k' := (kl_1.drop 5 ++ K_2)) (lv' := (lwv n o5 o6)) (st' := [vI (nI n + 1), vX, vR 0]) rfl ?_
  refine h_sld (j := n + 1) (nI_add n 1) (by omega) hX ?_
  refine h_pure 4 (k' := (kl_1.drop 10 ++ K_2)) (lv' := (lwv n o5 o6)) (st' := [vI (nI n + 2), vX, vI (X.2 (n + 1)), vR 0]) rfl ?_
  refine h_sld (j := n + 2) (nI_add n 2) (by omega) hX ?_
  refine h_pure 4 (k' := (kl_1.drop 15 ++ K_2)) (lv' := (lwv n o5 o6)) (st' := [vI (nI n + 3), vX, vI (X.2 (n + 2)), vI (X.2 (n + 1)), vR 0]) rfl ?_
  refine h_sld (j := n + 3) (nI_add n 3) (by omega) hX ?_
  refine h_pure 4 (k' := (kl_1.drop 20 ++ K_2)) (lv' := (lwv n o5 o6)) (st' := [vI (nI n + 4), vX, vI (X.2 (n + 3)), vI (X.2 (n + 2)), vI (X.2 (n + 1)), vR 0]) rfl ?_
  refine h_sld (j := n + 4) (nI_add n 4) (by omega) hX ?_
  refine h_pure 4 (k' := (kl_1.drop 25 ++ K_2)) (lv' := (lwv n o5 o6)) (st' := [vI (nI n + 5), vX, vI (X.2 (n + 4)), vI (X.2 (n + 3)), vI (X.2 (n + 2)), vI (X.2 (n + 1)), vR 0]) rfl ?_
  refine h_sld (j := n + 5) (nI_add n 5) (by omega) hX ?_
  refine h_calV (args := [vR 0, vI (X.2 (n + 1)), vI (X.2 (n + 2)), vI (X.2 (n + 3)), vI (X.2 (n + 4)), vI (X.2 (n + 5))]) (rest := []) rfl rfl (by decide) hw (fun r hr => ?_)
  obtain ⟨p', s, h1, ⟨-, hRC, rfl⟩ | ⟨c0, -, -⟩⟩ := hr
  case inr => exact absurd rfl c0
  show hL X 41 k_352 [] (kl_1.drop 27 ++ K_2) (lwv n o5 o6) [vI v] p' s kc ks Q
  refine h_pure 1 (k' := (kl_1.drop 28 ++ K_2)) (lv' := (lwv n o5 o6)) (st' := [vR 800, vI v]) rfl ?_
  refine h_pure 4 (k' := (kl_1.drop 32 ++ K_2)) (lv' := (lwv n o5 o6)) (st' := [vI (nI n + 1), vX, vR 800, vI v]) rfl ?_
  refine h_sld (j := n + 1) (nI_add n 1) (by omega) hX ?_
  refine h_pure 4 (k' := (kl_1.drop 37 ++ K_2)) (lv' := (lwv n o5 o6)) (st' := [vI (nI n + 2), vX, vI (X.2 (n + 1)), vR 800, vI v]) rfl ?_
  refine h_sld (j := n + 2) (nI_add n 2) (by omega) hX ?_
  refine h_pure 4 (k' := (kl_1.drop 42 ++ K_2)) (lv' := (lwv n o5 o6)) (st' := [vI (nI n + 3), vX, vI (X.2 (n + 2)), vI (X.2 (n + 1)), vR 800, vI v]) rfl ?_
  refine h_sld (j := n + 3) (nI_add n 3) (by omega) hX ?_
  refine h_pure 4 (k' := (kl_1.drop 47 ++ K_2)) (lv' := (lwv n o5 o6)) (st' := [vI (nI n + 4), vX, vI (X.2 (n + 3)), vI (X.2 (n + 2)), vI (X.2 (n + 1)), vR 800, vI v]) rfl ?_
  refine h_sld (j := n + 4) (nI_add n 4) (by omega) hX ?_
  refine h_pure 4 (k' := (kl_1.drop 52 ++ K_2)) (lv' := (lwv n o5 o6)) (st' := [vI (nI n + 5), vX, vI (X.2 (n + 4)), vI (X.2 (n + 3)), vI (X.2 (n + 2)), vI (X.2 (n + 1)), vR 800, vI v]) rfl ?_
  refine h_sld (j := n + 5) (nI_add n 5) (by omega) hX ?_
  refine h_calV (args := [vR 800, vI (X.2 (n + 1)), vI (X.2 (n + 2)), vI (X.2 (n + 3)), vI (X.2 (n + 4)), vI (X.2 (n + 5))]) (rest := [vI v]) rfl rfl (Nat.le_of_ble_eq_true rfl) (hm p' s (fun c hc _ => h1 c hc) hRC) (fun r hr => ?_)
  obtain ⟨s2, v2, A2, g1, g2, g3, rfl, gI, gC, gM⟩ := hr
  have e2 : v2 = v := g3 rfl
  subst e2
  show hL X 41 k_352 [] (kl_1.drop 54 ++ K_2) (lwv n o5 o6) [vI v2, vI v2] p' s2 kc ks Q
  exact h_if2 (k' := K_42) (P := True) sk_42 ⟨fun _ => trivial, fun _ => rfl⟩ (fun _ => nx A2 p' s2 kc ks o5 o6 gI gC gM (by omega) (by omega)) (fun h => absurd trivial h)
/-- end -/
theorem lc_1 {X : Nat × (Nat → Int32)} {n : Nat} {p : Nat → Nat} {sg : Mg} {kc ks B2 : Nat} {o5 o6 : Option AV} {Q : am_R → Prop} (hX : X.1 < 2147483648) (hn : n + 6 ≤ X.1) {As : AS} {v : Int32} (hw : gF X 41 127 [vR 0, vI (X.2 (n + 1))] p sg (cR As As (fun _ => 0) (0, v) sg)) (hm : mOK X B2 183 [vI (X.2 (n + 1))] As As (0, v) sg) (nx : NX X n B2 kc ks Q) : hL X 41 k_352 [] K_2 (lwv n o5 o6) [] p sg kc ks Q := by
  refine h_pure 1 (k' := (kl_2.drop 1 ++ K_3)) (lv' := (lwv n o5 o6)) (st' := [vR 0]) rfl ?_
  refine h_pure 4 (k' := (kl_2.drop 5 ++ K_3)) (lv' := (lwv n o5 o6)) (st' := [vI (nI n + 1), vX, vR 0]) rfl ?_
  refine h_sld (j := n + 1) (nI_add n 1) (by omega) hX ?_
  refine h_calV (args := [vR 0, vI (X.2 (n + 1))]) (rest := []) rfl rfl (by decide) hw (fun r hr => ?_)
  obtain ⟨p', s, h1, ⟨-, hRC, rfl⟩ | ⟨c0, -, -⟩⟩ := hr
  case inr => exact absurd rfl c0
  show hL X 41 k_352 [] (kl_2.drop 7 ++ K_3) (lwv n o5 o6) [vI v] p' s kc ks Q
  refine h_pure 1 (k' := (kl_2.drop 8 ++ K_3)) (lv' := (lwv n o5 o6)) (st' := [vR 800, vI v]) rfl ?_
  refine h_pure 4 (k' := (kl_2.drop 12 ++ K_3)) (lv' := (lwv n o5 o6)) (st' := [vI (nI n + 1), vX, vR 800, vI v]) rfl ?_
  refine h_sld (j := n + 1) (nI_add n 1) (by omega) hX ?_
  refine h_calV (args := [vR 800, vI (X.2 (n + 1))]) (rest := [vI v]) rfl rfl (Nat.le_of_ble_eq_true rfl) (hm p' s (fun c hc _ => h1 c hc) hRC) (fun r hr => ?_)
  obtain ⟨s2, v2, A2, g1, g2, g3, rfl, gI, gC, gM⟩ := hr
  have e2 : v2 = v := g3 rfl
  subst e2
  show hL X 41 k_352 [] (kl_2.drop 14 ++ K_3) (lwv n o5 o6) [vI v2, vI v2] p' s2 kc ks Q
  exact h_if2 (k' := K_42) (P := True) sk_42 ⟨fun _ => trivial, fun _ => rfl⟩ (fun _ => nx A2 p' s2 kc ks o5 o6 gI gC gM (by omega) (by omega)) (fun h => absurd trivial h)
/-- country -/
theorem lc_2 {X : Nat × (Nat → Int32)} {n : Nat} {p : Nat → Nat} {sg : Mg} {kc ks B2 : Nat} {o5 o6 : Option AV} {Q : am_R → Prop} (hX : X.1 < 2147483648) (hn : n + 6 ≤ X.1) {Af As : AS} {cv : Nat × Int32} (hw : gF X 41 319 [vR 0, vR 900] p sg (wR Af As cv id sg)) (hm : mOK X B2 185 [] Af As cv sg) (hc0 : nI cv.1 = 0 → cv.1 = 0) (nx : NX X n B2 kc ks Q) : hL X 41 k_352 [] K_3 (lwv n o5 o6) [] p sg kc ks Q := by
  refine h_pure 1 (k' := (kl_3.drop 1 ++ K_4)) (lv' := (lwv n o5 o6)) (st' := [vR 0]) rfl ?_
  refine h_pure 1 (k' := (kl_3.drop 2 ++ K_4)) (lv' := (lwv n o5 o6)) (st' := [vR 900, vR 0]) rfl ?_
  refine h_calS (args := [vR 0, vR 900]) (rest := []) rfl rfl (by decide) hw (fun r hr => ?_)
  obtain ⟨p', s, h1, hr⟩ := hr
  obtain ⟨kd, sd, hk1, hk2, e⟩ : ∃ kd sd, kd ≤ 1 ∧ sd ≤ 6 ∧ r = ((gE p', s), .inl (some (vI (nI cv.1))), kd, sd) := by
    rcases hr with ⟨c0, -, -, e⟩ | ⟨c0, -, e⟩
    · exact ⟨0, 0, Nat.zero_le _, Nat.zero_le _, by rw [e, c0]; rfl⟩
    · exact ⟨1, 6, Nat.le_refl _, Nat.le_refl _, e⟩
  have hRC : RC (if cv.1 = 0 then As else Af) p' s := by
    rcases hr with ⟨c0, h, -, -⟩ | ⟨c0, h, -⟩
    · rw [if_pos c0]; exact h
    · rw [if_neg c0]; exact h
  have h9 : cv.1 = 0 → s 900 0 = id cv.2 := by
    intro c0
    rcases hr with ⟨-, -, h, -⟩ | ⟨c1, -, -⟩
    · exact h
    · exact absurd c0 c1
  subst e
  show hL X 41 k_352 [] (kl_3.drop 3 ++ K_4) (lwv n o5 o6) [vI (nI cv.1)] p' s (kc + kd) (ks + sd) Q
  refine h_pure 2 (k' := (kl_3.drop 5 ++ K_4)) (lv' := (lwv n (some (vI (nI cv.1))) o6)) (st' := [vR 800]) rfl ?_
  refine h_calV (args := [vR 800]) (rest := []) rfl rfl (by decide) (hm p' s h1 hRC) (fun r hr => ?_)
  obtain ⟨s2, v, A2, g1, g2, g3, rfl, gI, gC, gM⟩ := hr
  show hL X 41 k_352 [] (kl_3.drop 6 ++ K_4) (lwv n (some (vI (nI cv.1))) o6) [vI v] p' s2 (kc + kd) (ks + sd) Q
  refine h_pure 2 (k' := (kl_3.drop 8 ++ K_4)) (lv' := (lwv n (some (vI (nI cv.1))) (some (vI v)))) (st' := [vR 800]) rfl ?_
  refine h_calV (args := [vR 800]) (rest := []) rfl rfl (by decide) (s_178 (d := 40)) (fun r hr => ?_)
  subst hr
  rw [g2]
  show hL X 41 k_352 [] (kl_3.drop 9 ++ K_4) (lwv n (some (vI (nI cv.1))) (some (vI v))) [vI (nI cv.1)] p' s2 (kc + kd) (ks + sd) Q
  refine h_pure 1 (k' := (kl_3.drop 10 ++ K_4)) (lv' := (lwv n (some (vI (nI cv.1))) (some (vI v)))) (st' := [vI (nI cv.1), vI (nI cv.1)]) rfl ?_
  refine h_if2 (k' := (kl_3.drop 13 ++ K_4)) (P := True) ((to_3 342 (by decide)).trans rfl) ⟨fun _ => trivial, fun _ => rfl⟩ (fun _ => ?_) (fun h => absurd trivial h)
  have nx' := nx A2 p' s2 (kc + kd) (ks + sd) (some (vI (nI cv.1))) (some (vI v)) gI gC gM (by omega) (by omega)
  refine h_pure 1 (k' := (kl_3.drop 14 ++ K_4)) (lv' := (lwv n (some (vI (nI cv.1))) (some (vI v)))) (st' := [vI (nI cv.1)]) rfl ?_
  refine h_if1 (k' := (kl_3.drop 24 ++ K_4)) (P := ¬ nI cv.1 = 0) ((to_3 359 (by decide)).trans rfl) Iff.rfl (fun _ => (h_goto (k' := K_42) sk_42 nx')) (fun h0 => ?_)
  have c0 : cv.1 = 0 := hc0 (Classical.not_not.mp h0)
  refine h_pure 2 (k' := (kl_3.drop 17 ++ K_4)) (lv' := (lwv n (some (vI (nI cv.1))) (some (vI v)))) (st' := [vI 0, vR 900]) rfl ?_
  refine h_lald ?_
  have e3 : v = cv.2 := g3 c0
  subst e3
  rw [g1, h9 c0]
  refine h_pure 1 (k' := (kl_3.drop 19 ++ K_4)) (lv' := (lwv n (some (vI (nI cv.1))) (some (vI cv.2)))) (st' := [vI cv.2, vL (id cv.2)]) rfl ?_
  refine h_i2l (h_lcmp ?_)
  rw [show am_lcmp (id cv.2) cv.2 = 0 from am_lcmp_self _]
  exact h_if1 (k' := (kl_3.drop 24 ++ K_4)) (P := True) ((to_3 359 (by decide)).trans rfl) ⟨fun _ => trivial, fun _ => rfl⟩ (fun _ => (h_goto (k' := K_42) sk_42 nx')) (fun h => absurd trivial h)
/-- law -/
theorem lc_3 {X : Nat × (Nat → Int32)} {n : Nat} {p : Nat → Nat} {sg : Mg} {kc ks B2 : Nat} {o5 o6 : Option AV} {Q : am_R → Prop} (hX : X.1 < 2147483648) (hn : n + 6 ≤ X.1) {Af As : AS} {cv : Nat × Int32} (hw : gF X 41 320 [vR 0, vR 900] p sg (wR Af As cv id sg)) (hm : mOK X B2 228 [] Af As cv sg) (hc0 : nI cv.1 = 0 → cv.1 = 0) (nx : NX X n B2 kc ks Q) : hL X 41 k_352 [] K_4 (lwv n o5 o6) [] p sg kc ks Q := by
  refine h_pure 1 (k' := (kl_4.drop 1 ++ K_5)) (lv' := (lwv n o5 o6)) (st' := [vR 0]) rfl ?_
  refine h_pure 1 (k' := (kl_4.drop 2 ++ K_5)) (lv' := (lwv n o5 o6)) (st' := [vR 900, vR 0]) rfl ?_
  refine h_calS (args := [vR 0, vR 900]) (rest := []) rfl rfl (by decide) hw (fun r hr => ?_)
  obtain ⟨p', s, h1, hr⟩ := hr
  obtain ⟨kd, sd, hk1, hk2, e⟩ : ∃ kd sd, kd ≤ 1 ∧ sd ≤ 6 ∧ r = ((gE p', s), .inl (some (vI (nI cv.1))), kd, sd) := by
    rcases hr with ⟨c0, -, -, e⟩ | ⟨c0, -, e⟩
    · exact ⟨0, 0, Nat.zero_le _, Nat.zero_le _, by rw [e, c0]; rfl⟩
    · exact ⟨1, 6, Nat.le_refl _, Nat.le_refl _, e⟩
  have hRC : RC (if cv.1 = 0 then As else Af) p' s := by
    rcases hr with ⟨c0, h, -, -⟩ | ⟨c0, h, -⟩
    · rw [if_pos c0]; exact h
    · rw [if_neg c0]; exact h
  have h9 : cv.1 = 0 → s 900 0 = id cv.2 := by
    intro c0
    rcases hr with ⟨-, -, h, -⟩ | ⟨c1, -, -⟩
    · exact h
    · exact absurd c0 c1
  subst e
  show hL X 41 k_352 [] (kl_4.drop 3 ++ K_5) (lwv n o5 o6) [vI (nI cv.1)] p' s (kc + kd) (ks + sd) Q
  refine h_pure 2 (k' := (kl_4.drop 5 ++ K_5)) (lv' := (lwv n (some (vI (nI cv.1))) o6)) (st' := [vR 800]) rfl ?_
  refine h_calV (args := [vR 800]) (rest := []) rfl rfl (by decide) (hm p' s h1 hRC) (fun r hr => ?_)
  obtain ⟨s2, v, A2, g1, g2, g3, rfl, gI, gC, gM⟩ := hr
  show hL X 41 k_352 [] (kl_4.drop 6 ++ K_5) (lwv n (some (vI (nI cv.1))) o6) [vI v] p' s2 (kc + kd) (ks + sd) Q
  refine h_pure 2 (k' := (kl_4.drop 8 ++ K_5)) (lv' := (lwv n (some (vI (nI cv.1))) (some (vI v)))) (st' := [vR 800]) rfl ?_
  refine h_calV (args := [vR 800]) (rest := []) rfl rfl (by decide) (s_178 (d := 40)) (fun r hr => ?_)
  subst hr
  rw [g2]
  show hL X 41 k_352 [] (kl_4.drop 9 ++ K_5) (lwv n (some (vI (nI cv.1))) (some (vI v))) [vI (nI cv.1)] p' s2 (kc + kd) (ks + sd) Q
  refine h_pure 1 (k' := (kl_4.drop 10 ++ K_5)) (lv' := (lwv n (some (vI (nI cv.1))) (some (vI v)))) (st' := [vI (nI cv.1), vI (nI cv.1)]) rfl ?_
  refine h_if2 (k' := (kl_4.drop 13 ++ K_5)) (P := True) ((to_4 386 (by decide)).trans rfl) ⟨fun _ => trivial, fun _ => rfl⟩ (fun _ => ?_) (fun h => absurd trivial h)
  have nx' := nx A2 p' s2 (kc + kd) (ks + sd) (some (vI (nI cv.1))) (some (vI v)) gI gC gM (by omega) (by omega)
  refine h_pure 1 (k' := (kl_4.drop 14 ++ K_5)) (lv' := (lwv n (some (vI (nI cv.1))) (some (vI v)))) (st' := [vI (nI cv.1)]) rfl ?_
  refine h_if1 (k' := (kl_4.drop 24 ++ K_5)) (P := ¬ nI cv.1 = 0) ((to_4 403 (by decide)).trans rfl) Iff.rfl (fun _ => (h_goto (k' := K_42) sk_42 nx')) (fun h0 => ?_)
  have c0 : cv.1 = 0 := hc0 (Classical.not_not.mp h0)
  refine h_pure 2 (k' := (kl_4.drop 17 ++ K_5)) (lv' := (lwv n (some (vI (nI cv.1))) (some (vI v)))) (st' := [vI 0, vR 900]) rfl ?_
  refine h_lald ?_
  have e3 : v = cv.2 := g3 c0
  subst e3
  rw [g1, h9 c0]
  refine h_pure 1 (k' := (kl_4.drop 19 ++ K_5)) (lv' := (lwv n (some (vI (nI cv.1))) (some (vI cv.2)))) (st' := [vI cv.2, vL (id cv.2)]) rfl ?_
  refine h_i2l (h_lcmp ?_)
  rw [show am_lcmp (id cv.2) cv.2 = 0 from am_lcmp_self _]
  exact h_if1 (k' := (kl_4.drop 24 ++ K_5)) (P := True) ((to_4 403 (by decide)).trans rfl) ⟨fun _ => trivial, fun _ => rfl⟩ (fun _ => (h_goto (k' := K_42) sk_42 nx')) (fun h => absurd trivial h)
/-- fault -/
theorem lc_4 {X : Nat × (Nat → Int32)} {n : Nat} {p : Nat → Nat} {sg : Mg} {kc ks B2 : Nat} {o5 o6 : Option AV} {Q : am_R → Prop} (hX : X.1 < 2147483648) (hn : n + 6 ≤ X.1) {As : AS} {v : Int32} (hw : gF X 41 128 [vR 0] p sg (cR As As (fun _ => 0) (0, v) sg)) (hm : mOK X B2 184 [] As As (0, v) sg) (nx : NX X n B2 kc ks Q) : hL X 41 k_352 [] K_5 (lwv n o5 o6) [] p sg kc ks Q := by
  refine h_pure 1 (k' := (kl_5.drop 1 ++ K_6)) (lv' := (lwv n o5 o6)) (st' := [vR 0]) rfl ?_
  refine h_calV (args := [vR 0]) (rest := []) rfl rfl (by decide) hw (fun r hr => ?_)
  obtain ⟨p', s, h1, ⟨-, hRC, rfl⟩ | ⟨c0, -, -⟩⟩ := hr
  case inr => exact absurd rfl c0
  show hL X 41 k_352 [] (kl_5.drop 2 ++ K_6) (lwv n o5 o6) [vI v] p' s kc ks Q
  refine h_pure 1 (k' := (kl_5.drop 3 ++ K_6)) (lv' := (lwv n o5 o6)) (st' := [vR 800, vI v]) rfl ?_
  refine h_calV (args := [vR 800]) (rest := [vI v]) rfl rfl (Nat.le_of_ble_eq_true rfl) (hm p' s (fun c hc _ => h1 c hc) hRC) (fun r hr => ?_)
  obtain ⟨s2, v2, A2, g1, g2, g3, rfl, gI, gC, gM⟩ := hr
  have e2 : v2 = v := g3 rfl
  subst e2
  show hL X 41 k_352 [] (kl_5.drop 4 ++ K_6) (lwv n o5 o6) [vI v2, vI v2] p' s2 kc ks Q
  exact h_if2 (k' := K_42) (P := True) sk_42 ⟨fun _ => trivial, fun _ => rfl⟩ (fun _ => nx A2 p' s2 kc ks o5 o6 gI gC gM (by omega) (by omega)) (fun h => absurd trivial h)
/-- day -/
theorem lc_5 {X : Nat × (Nat → Int32)} {n : Nat} {p : Nat → Nat} {sg : Mg} {kc ks B2 : Nat} {o5 o6 : Option AV} {Q : am_R → Prop} (hX : X.1 < 2147483648) (hn : n + 6 ≤ X.1) {Af As : AS} {cv : Nat × Int32} (hw : gF X 41 321 [vR 0, vI (X.2 (n + 1)), vI (X.2 (n + 2)), vR 900] p sg (wR Af As cv id sg)) (hm : mOK X B2 229 [vI (X.2 (n + 1)), vI (X.2 (n + 2))] Af As cv sg) (hc0 : nI cv.1 = 0 → cv.1 = 0) (nx : NX X n B2 kc ks Q) : hL X 41 k_352 [] K_6 (lwv n o5 o6) [] p sg kc ks Q := by
  refine h_pure 1 (k' := (kl_6.drop 1 ++ K_7)) (lv' := (lwv n o5 o6)) (st' := [vR 0]) rfl ?_
  refine h_pure 4 (k' := (kl_6.drop 5 ++ K_7)) (lv' := (lwv n o5 o6)) (st' := [vI (nI n + 1), vX, vR 0]) rfl ?_
  refine h_sld (j := n + 1) (nI_add n 1) (by omega) hX ?_
  refine h_pure 4 (k' := (kl_6.drop 10 ++ K_7)) (lv' := (lwv n o5 o6)) (st' := [vI (nI n + 2), vX, vI (X.2 (n + 1)), vR 0]) rfl ?_
  refine h_sld (j := n + 2) (nI_add n 2) (by omega) hX ?_
  refine h_pure 1 (k' := (kl_6.drop 12 ++ K_7)) (lv' := (lwv n o5 o6)) (st' := [vR 900, vI (X.2 (n + 2)), vI (X.2 (n + 1)), vR 0]) rfl ?_
  refine h_calS (args := [vR 0, vI (X.2 (n + 1)), vI (X.2 (n + 2)), vR 900]) (rest := []) rfl rfl (by decide) hw (fun r hr => ?_)
  obtain ⟨p', s, h1, hr⟩ := hr
  obtain ⟨kd, sd, hk1, hk2, e⟩ : ∃ kd sd, kd ≤ 1 ∧ sd ≤ 6 ∧ r = ((gE p', s), .inl (some (vI (nI cv.1))), kd, sd) := by
    rcases hr with ⟨c0, -, -, e⟩ | ⟨c0, -, e⟩
    · exact ⟨0, 0, Nat.zero_le _, Nat.zero_le _, by rw [e, c0]; rfl⟩
    · exact ⟨1, 6, Nat.le_refl _, Nat.le_refl _, e⟩
  have hRC : RC (if cv.1 = 0 then As else Af) p' s := by
    rcases hr with ⟨c0, h, -, -⟩ | ⟨c0, h, -⟩
    · rw [if_pos c0]; exact h
    · rw [if_neg c0]; exact h
  have h9 : cv.1 = 0 → s 900 0 = id cv.2 := by
    intro c0
    rcases hr with ⟨-, -, h, -⟩ | ⟨c1, -, -⟩
    · exact h
    · exact absurd c0 c1
  subst e
  show hL X 41 k_352 [] (kl_6.drop 13 ++ K_7) (lwv n o5 o6) [vI (nI cv.1)] p' s (kc + kd) (ks + sd) Q
  refine h_pure 2 (k' := (kl_6.drop 15 ++ K_7)) (lv' := (lwv n (some (vI (nI cv.1))) o6)) (st' := [vR 800]) rfl ?_
  refine h_pure 4 (k' := (kl_6.drop 19 ++ K_7)) (lv' := (lwv n (some (vI (nI cv.1))) o6)) (st' := [vI (nI n + 1), vX, vR 800]) rfl ?_
  refine h_sld (j := n + 1) (nI_add n 1) (by omega) hX ?_
  refine h_pure 4 (k' := (kl_6.drop 24 ++ K_7)) (lv' := (lwv n (some (vI (nI cv.1))) o6)) (st' := [vI (nI n + 2), vX, vI (X.2 (n + 1)), vR 800]) rfl ?_
  refine h_sld (j := n + 2) (nI_add n 2) (by omega) hX ?_
  refine h_calV (args := [vR 800, vI (X.2 (n + 1)), vI (X.2 (n + 2))]) (rest := []) rfl rfl (by decide) (hm p' s h1 hRC) (fun r hr => ?_)
  obtain ⟨s2, v, A2, g1, g2, g3, rfl, gI, gC, gM⟩ := hr
  show hL X 41 k_352 [] (kl_6.drop 26 ++ K_7) (lwv n (some (vI (nI cv.1))) o6) [vI v] p' s2 (kc + kd) (ks + sd) Q
  refine h_pure 2 (k' := (kl_6.drop 28 ++ K_7)) (lv' := (lwv n (some (vI (nI cv.1))) (some (vI v)))) (st' := [vR 800]) rfl ?_
  refine h_calV (args := [vR 800]) (rest := []) rfl rfl (by decide) (s_178 (d := 40)) (fun r hr => ?_)
  subst hr
  rw [g2]
  show hL X 41 k_352 [] (kl_6.drop 29 ++ K_7) (lwv n (some (vI (nI cv.1))) (some (vI v))) [vI (nI cv.1)] p' s2 (kc + kd) (ks + sd) Q
  refine h_pure 1 (k' := (kl_6.drop 30 ++ K_7)) (lv' := (lwv n (some (vI (nI cv.1))) (some (vI v)))) (st' := [vI (nI cv.1), vI (nI cv.1)]) rfl ?_
  refine h_if2 (k' := (kl_6.drop 33 ++ K_7)) (P := True) ((to_6 467 (by decide)).trans rfl) ⟨fun _ => trivial, fun _ => rfl⟩ (fun _ => ?_) (fun h => absurd trivial h)
  have nx' := nx A2 p' s2 (kc + kd) (ks + sd) (some (vI (nI cv.1))) (some (vI v)) gI gC gM (by omega) (by omega)
  refine h_pure 1 (k' := (kl_6.drop 34 ++ K_7)) (lv' := (lwv n (some (vI (nI cv.1))) (some (vI v)))) (st' := [vI (nI cv.1)]) rfl ?_
  refine h_if1 (k' := (kl_6.drop 44 ++ K_7)) (P := ¬ nI cv.1 = 0) ((to_6 484 (by decide)).trans rfl) Iff.rfl (fun _ => (h_goto (k' := K_42) sk_42 nx')) (fun h0 => ?_)
  have c0 : cv.1 = 0 := hc0 (Classical.not_not.mp h0)
  refine h_pure 2 (k' := (kl_6.drop 37 ++ K_7)) (lv' := (lwv n (some (vI (nI cv.1))) (some (vI v)))) (st' := [vI 0, vR 900]) rfl ?_
  refine h_lald ?_
  have e3 : v = cv.2 := g3 c0
  subst e3
  rw [g1, h9 c0]
  refine h_pure 1 (k' := (kl_6.drop 39 ++ K_7)) (lv' := (lwv n (some (vI (nI cv.1))) (some (vI cv.2)))) (st' := [vI cv.2, vL (id cv.2)]) rfl ?_
  refine h_i2l (h_lcmp ?_)
  rw [show am_lcmp (id cv.2) cv.2 = 0 from am_lcmp_self _]
  exact h_if1 (k' := (kl_6.drop 44 ++ K_7)) (P := True) ((to_6 484 (by decide)).trans rfl) ⟨fun _ => trivial, fun _ => rfl⟩ (fun _ => (h_goto (k' := K_42) sk_42 nx')) (fun h => absurd trivial h)
/-- page -/
theorem lc_6 {X : Nat × (Nat → Int32)} {n : Nat} {p : Nat → Nat} {sg : Mg} {kc ks B2 : Nat} {o5 o6 : Option AV} {Q : am_R → Prop} (hX : X.1 < 2147483648) (hn : n + 6 ≤ X.1) {Af As : AS} {cv : Nat × Int32} (hw : gF X 41 322 [vR 0, vI (X.2 (n + 1)), vI (X.2 (n + 2)), vR 900] p sg (wR Af As cv id sg)) (hm : mOK X B2 233 [vI (X.2 (n + 1)), vI (X.2 (n + 2))] Af As cv sg) (hc0 : nI cv.1 = 0 → cv.1 = 0) (nx : NX X n B2 kc ks Q) : hL X 41 k_352 [] K_7 (lwv n o5 o6) [] p sg kc ks Q := by
  refine h_pure 1 (k' := (kl_7.drop 1 ++ K_8)) (lv' := (lwv n o5 o6)) (st' := [vR 0]) rfl ?_
  refine h_pure 4 (k' := (kl_7.drop 5 ++ K_8)) (lv' := (lwv n o5 o6)) (st' := [vI (nI n + 1), vX, vR 0]) rfl ?_
  refine h_sld (j := n + 1) (nI_add n 1) (by omega) hX ?_
  refine h_pure 4 (k' := (kl_7.drop 10 ++ K_8)) (lv' := (lwv n o5 o6)) (st' := [vI (nI n + 2), vX, vI (X.2 (n + 1)), vR 0]) rfl ?_
  refine h_sld (j := n + 2) (nI_add n 2) (by omega) hX ?_
  refine h_pure 1 (k' := (kl_7.drop 12 ++ K_8)) (lv' := (lwv n o5 o6)) (st' := [vR 900, vI (X.2 (n + 2)), vI (X.2 (n + 1)), vR 0]) rfl ?_
  refine h_calS (args := [vR 0, vI (X.2 (n + 1)), vI (X.2 (n + 2)), vR 900]) (rest := []) rfl rfl (by decide) hw (fun r hr => ?_)
  obtain ⟨p', s, h1, hr⟩ := hr
  obtain ⟨kd, sd, hk1, hk2, e⟩ : ∃ kd sd, kd ≤ 1 ∧ sd ≤ 6 ∧ r = ((gE p', s), .inl (some (vI (nI cv.1))), kd, sd) := by
    rcases hr with ⟨c0, -, -, e⟩ | ⟨c0, -, e⟩
    · exact ⟨0, 0, Nat.zero_le _, Nat.zero_le _, by rw [e, c0]; rfl⟩
    · exact ⟨1, 6, Nat.le_refl _, Nat.le_refl _, e⟩
  have hRC : RC (if cv.1 = 0 then As else Af) p' s := by
    rcases hr with ⟨c0, h, -, -⟩ | ⟨c0, h, -⟩
    · rw [if_pos c0]; exact h
    · rw [if_neg c0]; exact h
  have h9 : cv.1 = 0 → s 900 0 = id cv.2 := by
    intro c0
    rcases hr with ⟨-, -, h, -⟩ | ⟨c1, -, -⟩
    · exact h
    · exact absurd c0 c1
  subst e
  show hL X 41 k_352 [] (kl_7.drop 13 ++ K_8) (lwv n o5 o6) [vI (nI cv.1)] p' s (kc + kd) (ks + sd) Q
  refine h_pure 2 (k' := (kl_7.drop 15 ++ K_8)) (lv' := (lwv n (some (vI (nI cv.1))) o6)) (st' := [vR 800]) rfl ?_
  refine h_pure 4 (k' := (kl_7.drop 19 ++ K_8)) (lv' := (lwv n (some (vI (nI cv.1))) o6)) (st' := [vI (nI n + 1), vX, vR 800]) rfl ?_
  refine h_sld (j := n + 1) (nI_add n 1) (by omega) hX ?_
  refine h_pure 4 (k' := (kl_7.drop 24 ++ K_8)) (lv' := (lwv n (some (vI (nI cv.1))) o6)) (st' := [vI (nI n + 2), vX, vI (X.2 (n + 1)), vR 800]) rfl ?_
  refine h_sld (j := n + 2) (nI_add n 2) (by omega) hX ?_
  refine h_calV (args := [vR 800, vI (X.2 (n + 1)), vI (X.2 (n + 2))]) (rest := []) rfl rfl (by decide) (hm p' s h1 hRC) (fun r hr => ?_)
  obtain ⟨s2, v, A2, g1, g2, g3, rfl, gI, gC, gM⟩ := hr
  show hL X 41 k_352 [] (kl_7.drop 26 ++ K_8) (lwv n (some (vI (nI cv.1))) o6) [vI v] p' s2 (kc + kd) (ks + sd) Q
  refine h_pure 2 (k' := (kl_7.drop 28 ++ K_8)) (lv' := (lwv n (some (vI (nI cv.1))) (some (vI v)))) (st' := [vR 800]) rfl ?_
  refine h_calV (args := [vR 800]) (rest := []) rfl rfl (by decide) (s_178 (d := 40)) (fun r hr => ?_)
  subst hr
  rw [g2]
  show hL X 41 k_352 [] (kl_7.drop 29 ++ K_8) (lwv n (some (vI (nI cv.1))) (some (vI v))) [vI (nI cv.1)] p' s2 (kc + kd) (ks + sd) Q
  refine h_pure 1 (k' := (kl_7.drop 30 ++ K_8)) (lv' := (lwv n (some (vI (nI cv.1))) (some (vI v)))) (st' := [vI (nI cv.1), vI (nI cv.1)]) rfl ?_
  refine h_if2 (k' := (kl_7.drop 33 ++ K_8)) (P := True) ((to_7 535 (by decide)).trans rfl) ⟨fun _ => trivial, fun _ => rfl⟩ (fun _ => ?_) (fun h => absurd trivial h)
  have nx' := nx A2 p' s2 (kc + kd) (ks + sd) (some (vI (nI cv.1))) (some (vI v)) gI gC gM (by omega) (by omega)
  refine h_pure 1 (k' := (kl_7.drop 34 ++ K_8)) (lv' := (lwv n (some (vI (nI cv.1))) (some (vI v)))) (st' := [vI (nI cv.1)]) rfl ?_
  refine h_if1 (k' := (kl_7.drop 44 ++ K_8)) (P := ¬ nI cv.1 = 0) ((to_7 552 (by decide)).trans rfl) Iff.rfl (fun _ => (h_goto (k' := K_42) sk_42 nx')) (fun h0 => ?_)
  have c0 : cv.1 = 0 := hc0 (Classical.not_not.mp h0)
  refine h_pure 2 (k' := (kl_7.drop 37 ++ K_8)) (lv' := (lwv n (some (vI (nI cv.1))) (some (vI v)))) (st' := [vI 0, vR 900]) rfl ?_
  refine h_lald ?_
  have e3 : v = cv.2 := g3 c0
  subst e3
  rw [g1, h9 c0]
  refine h_pure 1 (k' := (kl_7.drop 39 ++ K_8)) (lv' := (lwv n (some (vI (nI cv.1))) (some (vI cv.2)))) (st' := [vI cv.2, vL (id cv.2)]) rfl ?_
  refine h_i2l (h_lcmp ?_)
  rw [show am_lcmp (id cv.2) cv.2 = 0 from am_lcmp_self _]
  exact h_if1 (k' := (kl_7.drop 44 ++ K_8)) (P := True) ((to_7 552 (by decide)).trans rfl) ⟨fun _ => trivial, fun _ => rfl⟩ (fun _ => (h_goto (k' := K_42) sk_42 nx')) (fun h => absurd trivial h)
/-- when -/
theorem lc_7 {X : Nat × (Nat → Int32)} {n : Nat} {p : Nat → Nat} {sg : Mg} {kc ks B2 : Nat} {o5 o6 : Option AV} {Q : am_R → Prop} (hX : X.1 < 2147483648) (hn : n + 6 ≤ X.1) {Af As : AS} {cv : Nat × Int32} (hw : gF X 41 323 [vR 0, vI (X.2 (n + 1)), vI (X.2 (n + 2)), vI (X.2 (n + 3)), vR 900] p sg (wR Af As cv id sg)) (hm : mOK X B2 235 [vI (X.2 (n + 1)), vI (X.2 (n + 2)), vI (X.2 (n + 3))] Af As cv sg) (hc0 : nI cv.1 = 0 → cv.1 = 0) (nx : NX X n B2 kc ks Q) : hL X 41 k_352 [] K_8 (lwv n o5 o6) [] p sg kc ks Q := by
  refine h_pure 1 (k' := (kl_8.drop 1 ++ K_9)) (lv' := (lwv n o5 o6)) (st' := [vR 0]) rfl ?_
  refine h_pure 4 (k' := (kl_8.drop 5 ++ K_9)) (lv' := (lwv n o5 o6)) (st' := [vI (nI n + 1), vX, vR 0]) rfl ?_
  refine h_sld (j := n + 1) (nI_add n 1) (by omega) hX ?_
  refine h_pure 4 (k' := (kl_8.drop 10 ++ K_9)) (lv' := (lwv n o5 o6)) (st' := [vI (nI n + 2), vX, vI (X.2 (n + 1)), vR 0]) rfl ?_
  refine h_sld (j := n + 2) (nI_add n 2) (by omega) hX ?_
  refine h_pure 4 (k' := (kl_8.drop 15 ++ K_9)) (lv' := (lwv n o5 o6)) (st' := [vI (nI n + 3), vX, vI (X.2 (n + 2)), vI (X.2 (n + 1)), vR 0]) rfl ?_
  refine h_sld (j := n + 3) (nI_add n 3) (by omega) hX ?_
  refine h_pure 1 (k' := (kl_8.drop 17 ++ K_9)) (lv' := (lwv n o5 o6)) (st' := [vR 900, vI (X.2 (n + 3)), vI (X.2 (n + 2)), vI (X.2 (n + 1)), vR 0]) rfl ?_
  refine h_calS (args := [vR 0, vI (X.2 (n + 1)), vI (X.2 (n + 2)), vI (X.2 (n + 3)), vR 900]) (rest := []) rfl rfl (by decide) hw (fun r hr => ?_)
  obtain ⟨p', s, h1, hr⟩ := hr
  obtain ⟨kd, sd, hk1, hk2, e⟩ : ∃ kd sd, kd ≤ 1 ∧ sd ≤ 6 ∧ r = ((gE p', s), .inl (some (vI (nI cv.1))), kd, sd) := by
    rcases hr with ⟨c0, -, -, e⟩ | ⟨c0, -, e⟩
    · exact ⟨0, 0, Nat.zero_le _, Nat.zero_le _, by rw [e, c0]; rfl⟩
    · exact ⟨1, 6, Nat.le_refl _, Nat.le_refl _, e⟩
  have hRC : RC (if cv.1 = 0 then As else Af) p' s := by
    rcases hr with ⟨c0, h, -, -⟩ | ⟨c0, h, -⟩
    · rw [if_pos c0]; exact h
    · rw [if_neg c0]; exact h
  have h9 : cv.1 = 0 → s 900 0 = id cv.2 := by
    intro c0
    rcases hr with ⟨-, -, h, -⟩ | ⟨c1, -, -⟩
    · exact h
    · exact absurd c0 c1
  subst e
  show hL X 41 k_352 [] (kl_8.drop 18 ++ K_9) (lwv n o5 o6) [vI (nI cv.1)] p' s (kc + kd) (ks + sd) Q
  refine h_pure 2 (k' := (kl_8.drop 20 ++ K_9)) (lv' := (lwv n (some (vI (nI cv.1))) o6)) (st' := [vR 800]) rfl ?_
  refine h_pure 4 (k' := (kl_8.drop 24 ++ K_9)) (lv' := (lwv n (some (vI (nI cv.1))) o6)) (st' := [vI (nI n + 1), vX, vR 800]) rfl ?_
  refine h_sld (j := n + 1) (nI_add n 1) (by omega) hX ?_
  refine h_pure 4 (k' := (kl_8.drop 29 ++ K_9)) (lv' := (lwv n (some (vI (nI cv.1))) o6)) (st' := [vI (nI n + 2), vX, vI (X.2 (n + 1)), vR 800]) rfl ?_
  refine h_sld (j := n + 2) (nI_add n 2) (by omega) hX ?_
  refine h_pure 4 (k' := (kl_8.drop 34 ++ K_9)) (lv' := (lwv n (some (vI (nI cv.1))) o6)) (st' := [vI (nI n + 3), vX, vI (X.2 (n + 2)), vI (X.2 (n + 1)), vR 800]) rfl ?_
  refine h_sld (j := n + 3) (nI_add n 3) (by omega) hX ?_
  refine h_calV (args := [vR 800, vI (X.2 (n + 1)), vI (X.2 (n + 2)), vI (X.2 (n + 3))]) (rest := []) rfl rfl (by decide) (hm p' s h1 hRC) (fun r hr => ?_)
  obtain ⟨s2, v, A2, g1, g2, g3, rfl, gI, gC, gM⟩ := hr
  show hL X 41 k_352 [] (kl_8.drop 36 ++ K_9) (lwv n (some (vI (nI cv.1))) o6) [vI v] p' s2 (kc + kd) (ks + sd) Q
  refine h_pure 2 (k' := (kl_8.drop 38 ++ K_9)) (lv' := (lwv n (some (vI (nI cv.1))) (some (vI v)))) (st' := [vR 800]) rfl ?_
  refine h_calV (args := [vR 800]) (rest := []) rfl rfl (by decide) (s_178 (d := 40)) (fun r hr => ?_)
  subst hr
  rw [g2]
  show hL X 41 k_352 [] (kl_8.drop 39 ++ K_9) (lwv n (some (vI (nI cv.1))) (some (vI v))) [vI (nI cv.1)] p' s2 (kc + kd) (ks + sd) Q
  refine h_pure 1 (k' := (kl_8.drop 40 ++ K_9)) (lv' := (lwv n (some (vI (nI cv.1))) (some (vI v)))) (st' := [vI (nI cv.1), vI (nI cv.1)]) rfl ?_
  refine h_if2 (k' := (kl_8.drop 43 ++ K_9)) (P := True) ((to_8 615 (by decide)).trans rfl) ⟨fun _ => trivial, fun _ => rfl⟩ (fun _ => ?_) (fun h => absurd trivial h)
  have nx' := nx A2 p' s2 (kc + kd) (ks + sd) (some (vI (nI cv.1))) (some (vI v)) gI gC gM (by omega) (by omega)
  refine h_pure 1 (k' := (kl_8.drop 44 ++ K_9)) (lv' := (lwv n (some (vI (nI cv.1))) (some (vI v)))) (st' := [vI (nI cv.1)]) rfl ?_
  refine h_if1 (k' := (kl_8.drop 54 ++ K_9)) (P := ¬ nI cv.1 = 0) ((to_8 632 (by decide)).trans rfl) Iff.rfl (fun _ => (h_goto (k' := K_42) sk_42 nx')) (fun h0 => ?_)
  have c0 : cv.1 = 0 := hc0 (Classical.not_not.mp h0)
  refine h_pure 2 (k' := (kl_8.drop 47 ++ K_9)) (lv' := (lwv n (some (vI (nI cv.1))) (some (vI v)))) (st' := [vI 0, vR 900]) rfl ?_
  refine h_lald ?_
  have e3 : v = cv.2 := g3 c0
  subst e3
  rw [g1, h9 c0]
  refine h_pure 1 (k' := (kl_8.drop 49 ++ K_9)) (lv' := (lwv n (some (vI (nI cv.1))) (some (vI cv.2)))) (st' := [vI cv.2, vL (id cv.2)]) rfl ?_
  refine h_i2l (h_lcmp ?_)
  rw [show am_lcmp (id cv.2) cv.2 = 0 from am_lcmp_self _]
  exact h_if1 (k' := (kl_8.drop 54 ++ K_9)) (P := True) ((to_8 632 (by decide)).trans rfl) ⟨fun _ => trivial, fun _ => rfl⟩ (fun _ => (h_goto (k' := K_42) sk_42 nx')) (fun h => absurd trivial h)
/-- person -/
theorem lc_8 {X : Nat × (Nat → Int32)} {n : Nat} {p : Nat → Nat} {sg : Mg} {kc ks B2 : Nat} {o5 o6 : Option AV} {Q : am_R → Prop} (hX : X.1 < 2147483648) (hn : n + 6 ≤ X.1) {Af As : AS} {cv : Nat × Int32} (hw : gF X 41 324 [vR 0, vI (X.2 (n + 1)), vI (X.2 (n + 2)), vR 900] p sg (wR Af As cv id sg)) (hm : mOK X B2 236 [vI (X.2 (n + 1)), vI (X.2 (n + 2))] Af As cv sg) (hc0 : nI cv.1 = 0 → cv.1 = 0) (nx : NX X n B2 kc ks Q) : hL X 41 k_352 [] K_9 (lwv n o5 o6) [] p sg kc ks Q := by
  refine h_pure 1 (k' := (kl_9.drop 1 ++ K_10)) (lv' := (lwv n o5 o6)) (st' := [vR 0]) rfl ?_
  refine h_pure 4 (k' := (kl_9.drop 5 ++ K_10)) (lv' := (lwv n o5 o6)) (st' := [vI (nI n + 1), vX, vR 0]) rfl ?_
  refine h_sld (j := n + 1) (nI_add n 1) (by omega) hX ?_
  refine h_pure 4 (k' := (kl_9.drop 10 ++ K_10)) (lv' := (lwv n o5 o6)) (st' := [vI (nI n + 2), vX, vI (X.2 (n + 1)), vR 0]) rfl ?_
  refine h_sld (j := n + 2) (nI_add n 2) (by omega) hX ?_
  refine h_pure 1 (k' := (kl_9.drop 12 ++ K_10)) (lv' := (lwv n o5 o6)) (st' := [vR 900, vI (X.2 (n + 2)), vI (X.2 (n + 1)), vR 0]) rfl ?_
  refine h_calS (args := [vR 0, vI (X.2 (n + 1)), vI (X.2 (n + 2)), vR 900]) (rest := []) rfl rfl (by decide) hw (fun r hr => ?_)
  obtain ⟨p', s, h1, hr⟩ := hr
  obtain ⟨kd, sd, hk1, hk2, e⟩ : ∃ kd sd, kd ≤ 1 ∧ sd ≤ 6 ∧ r = ((gE p', s), .inl (some (vI (nI cv.1))), kd, sd) := by
    rcases hr with ⟨c0, -, -, e⟩ | ⟨c0, -, e⟩
    · exact ⟨0, 0, Nat.zero_le _, Nat.zero_le _, by rw [e, c0]; rfl⟩
    · exact ⟨1, 6, Nat.le_refl _, Nat.le_refl _, e⟩
  have hRC : RC (if cv.1 = 0 then As else Af) p' s := by
    rcases hr with ⟨c0, h, -, -⟩ | ⟨c0, h, -⟩
    · rw [if_pos c0]; exact h
    · rw [if_neg c0]; exact h
  have h9 : cv.1 = 0 → s 900 0 = id cv.2 := by
    intro c0
    rcases hr with ⟨-, -, h, -⟩ | ⟨c1, -, -⟩
    · exact h
    · exact absurd c0 c1
  subst e
  show hL X 41 k_352 [] (kl_9.drop 13 ++ K_10) (lwv n o5 o6) [vI (nI cv.1)] p' s (kc + kd) (ks + sd) Q
  refine h_pure 2 (k' := (kl_9.drop 15 ++ K_10)) (lv' := (lwv n (some (vI (nI cv.1))) o6)) (st' := [vR 800]) rfl ?_
  refine h_pure 4 (k' := (kl_9.drop 19 ++ K_10)) (lv' := (lwv n (some (vI (nI cv.1))) o6)) (st' := [vI (nI n + 1), vX, vR 800]) rfl ?_
  refine h_sld (j := n + 1) (nI_add n 1) (by omega) hX ?_
  refine h_pure 4 (k' := (kl_9.drop 24 ++ K_10)) (lv' := (lwv n (some (vI (nI cv.1))) o6)) (st' := [vI (nI n + 2), vX, vI (X.2 (n + 1)), vR 800]) rfl ?_
  refine h_sld (j := n + 2) (nI_add n 2) (by omega) hX ?_
  refine h_calV (args := [vR 800, vI (X.2 (n + 1)), vI (X.2 (n + 2))]) (rest := []) rfl rfl (by decide) (hm p' s h1 hRC) (fun r hr => ?_)
  obtain ⟨s2, v, A2, g1, g2, g3, rfl, gI, gC, gM⟩ := hr
  show hL X 41 k_352 [] (kl_9.drop 26 ++ K_10) (lwv n (some (vI (nI cv.1))) o6) [vI v] p' s2 (kc + kd) (ks + sd) Q
  refine h_pure 2 (k' := (kl_9.drop 28 ++ K_10)) (lv' := (lwv n (some (vI (nI cv.1))) (some (vI v)))) (st' := [vR 800]) rfl ?_
  refine h_calV (args := [vR 800]) (rest := []) rfl rfl (by decide) (s_178 (d := 40)) (fun r hr => ?_)
  subst hr
  rw [g2]
  show hL X 41 k_352 [] (kl_9.drop 29 ++ K_10) (lwv n (some (vI (nI cv.1))) (some (vI v))) [vI (nI cv.1)] p' s2 (kc + kd) (ks + sd) Q
  refine h_pure 1 (k' := (kl_9.drop 30 ++ K_10)) (lv' := (lwv n (some (vI (nI cv.1))) (some (vI v)))) (st' := [vI (nI cv.1), vI (nI cv.1)]) rfl ?_
  refine h_if2 (k' := (kl_9.drop 33 ++ K_10)) (P := True) ((to_9 683 (by decide)).trans rfl) ⟨fun _ => trivial, fun _ => rfl⟩ (fun _ => ?_) (fun h => absurd trivial h)
  have nx' := nx A2 p' s2 (kc + kd) (ks + sd) (some (vI (nI cv.1))) (some (vI v)) gI gC gM (by omega) (by omega)
  refine h_pure 1 (k' := (kl_9.drop 34 ++ K_10)) (lv' := (lwv n (some (vI (nI cv.1))) (some (vI v)))) (st' := [vI (nI cv.1)]) rfl ?_
  refine h_if1 (k' := (kl_9.drop 44 ++ K_10)) (P := ¬ nI cv.1 = 0) ((to_9 700 (by decide)).trans rfl) Iff.rfl (fun _ => (h_goto (k' := K_42) sk_42 nx')) (fun h0 => ?_)
  have c0 : cv.1 = 0 := hc0 (Classical.not_not.mp h0)
  refine h_pure 2 (k' := (kl_9.drop 37 ++ K_10)) (lv' := (lwv n (some (vI (nI cv.1))) (some (vI v)))) (st' := [vI 0, vR 900]) rfl ?_
  refine h_lald ?_
  have e3 : v = cv.2 := g3 c0
  subst e3
  rw [g1, h9 c0]
  refine h_pure 1 (k' := (kl_9.drop 39 ++ K_10)) (lv' := (lwv n (some (vI (nI cv.1))) (some (vI cv.2)))) (st' := [vI cv.2, vL (id cv.2)]) rfl ?_
  refine h_i2l (h_lcmp ?_)
  rw [show am_lcmp (id cv.2) cv.2 = 0 from am_lcmp_self _]
  exact h_if1 (k' := (kl_9.drop 44 ++ K_10)) (P := True) ((to_9 700 (by decide)).trans rfl) ⟨fun _ => trivial, fun _ => rfl⟩ (fun _ => (h_goto (k' := K_42) sk_42 nx')) (fun h => absurd trivial h)
/-- road -/
theorem lc_9 {X : Nat × (Nat → Int32)} {n : Nat} {p : Nat → Nat} {sg : Mg} {kc ks B2 : Nat} {o5 o6 : Option AV} {Q : am_R → Prop} (hX : X.1 < 2147483648) (hn : n + 6 ≤ X.1) {Af As : AS} {cv : Nat × Int32} (hw : gF X 41 325 [vR 0, vI (X.2 (n + 1)), vI (X.2 (n + 2)), vR 900] p sg (wR Af As cv id sg)) (hm : mOK X B2 240 [vI (X.2 (n + 1)), vI (X.2 (n + 2))] Af As cv sg) (hc0 : nI cv.1 = 0 → cv.1 = 0) (nx : NX X n B2 kc ks Q) : hL X 41 k_352 [] K_10 (lwv n o5 o6) [] p sg kc ks Q := by
  refine h_pure 1 (k' := (kl_10.drop 1 ++ K_11)) (lv' := (lwv n o5 o6)) (st' := [vR 0]) rfl ?_
  refine h_pure 4 (k' := (kl_10.drop 5 ++ K_11)) (lv' := (lwv n o5 o6)) (st' := [vI (nI n + 1), vX, vR 0]) rfl ?_
  refine h_sld (j := n + 1) (nI_add n 1) (by omega) hX ?_
  refine h_pure 4 (k' := (kl_10.drop 10 ++ K_11)) (lv' := (lwv n o5 o6)) (st' := [vI (nI n + 2), vX, vI (X.2 (n + 1)), vR 0]) rfl ?_
  refine h_sld (j := n + 2) (nI_add n 2) (by omega) hX ?_
  refine h_pure 1 (k' := (kl_10.drop 12 ++ K_11)) (lv' := (lwv n o5 o6)) (st' := [vR 900, vI (X.2 (n + 2)), vI (X.2 (n + 1)), vR 0]) rfl ?_
  refine h_calS (args := [vR 0, vI (X.2 (n + 1)), vI (X.2 (n + 2)), vR 900]) (rest := []) rfl rfl (by decide) hw (fun r hr => ?_)
  obtain ⟨p', s, h1, hr⟩ := hr
  obtain ⟨kd, sd, hk1, hk2, e⟩ : ∃ kd sd, kd ≤ 1 ∧ sd ≤ 6 ∧ r = ((gE p', s), .inl (some (vI (nI cv.1))), kd, sd) := by
    rcases hr with ⟨c0, -, -, e⟩ | ⟨c0, -, e⟩
    · exact ⟨0, 0, Nat.zero_le _, Nat.zero_le _, by rw [e, c0]; rfl⟩
    · exact ⟨1, 6, Nat.le_refl _, Nat.le_refl _, e⟩
  have hRC : RC (if cv.1 = 0 then As else Af) p' s := by
    rcases hr with ⟨c0, h, -, -⟩ | ⟨c0, h, -⟩
    · rw [if_pos c0]; exact h
    · rw [if_neg c0]; exact h
  have h9 : cv.1 = 0 → s 900 0 = id cv.2 := by
    intro c0
    rcases hr with ⟨-, -, h, -⟩ | ⟨c1, -, -⟩
    · exact h
    · exact absurd c0 c1
  subst e
  show hL X 41 k_352 [] (kl_10.drop 13 ++ K_11) (lwv n o5 o6) [vI (nI cv.1)] p' s (kc + kd) (ks + sd) Q
  refine h_pure 2 (k' := (kl_10.drop 15 ++ K_11)) (lv' := (lwv n (some (vI (nI cv.1))) o6)) (st' := [vR 800]) rfl ?_
  refine h_pure 4 (k' := (kl_10.drop 19 ++ K_11)) (lv' := (lwv n (some (vI (nI cv.1))) o6)) (st' := [vI (nI n + 1), vX, vR 800]) rfl ?_
  refine h_sld (j := n + 1) (nI_add n 1) (by omega) hX ?_
  refine h_pure 4 (k' := (kl_10.drop 24 ++ K_11)) (lv' := (lwv n (some (vI (nI cv.1))) o6)) (st' := [vI (nI n + 2), vX, vI (X.2 (n + 1)), vR 800]) rfl ?_
  refine h_sld (j := n + 2) (nI_add n 2) (by omega) hX ?_
  refine h_calV (args := [vR 800, vI (X.2 (n + 1)), vI (X.2 (n + 2))]) (rest := []) rfl rfl (by decide) (hm p' s h1 hRC) (fun r hr => ?_)
  obtain ⟨s2, v, A2, g1, g2, g3, rfl, gI, gC, gM⟩ := hr
  show hL X 41 k_352 [] (kl_10.drop 26 ++ K_11) (lwv n (some (vI (nI cv.1))) o6) [vI v] p' s2 (kc + kd) (ks + sd) Q
  refine h_pure 2 (k' := (kl_10.drop 28 ++ K_11)) (lv' := (lwv n (some (vI (nI cv.1))) (some (vI v)))) (st' := [vR 800]) rfl ?_
  refine h_calV (args := [vR 800]) (rest := []) rfl rfl (by decide) (s_178 (d := 40)) (fun r hr => ?_)
  subst hr
  rw [g2]
  show hL X 41 k_352 [] (kl_10.drop 29 ++ K_11) (lwv n (some (vI (nI cv.1))) (some (vI v))) [vI (nI cv.1)] p' s2 (kc + kd) (ks + sd) Q
  refine h_pure 1 (k' := (kl_10.drop 30 ++ K_11)) (lv' := (lwv n (some (vI (nI cv.1))) (some (vI v)))) (st' := [vI (nI cv.1), vI (nI cv.1)]) rfl ?_
  refine h_if2 (k' := (kl_10.drop 33 ++ K_11)) (P := True) ((to_10 751 (by decide)).trans rfl) ⟨fun _ => trivial, fun _ => rfl⟩ (fun _ => ?_) (fun h => absurd trivial h)
  have nx' := nx A2 p' s2 (kc + kd) (ks + sd) (some (vI (nI cv.1))) (some (vI v)) gI gC gM (by omega) (by omega)
  refine h_pure 1 (k' := (kl_10.drop 34 ++ K_11)) (lv' := (lwv n (some (vI (nI cv.1))) (some (vI v)))) (st' := [vI (nI cv.1)]) rfl ?_
  refine h_if1 (k' := (kl_10.drop 44 ++ K_11)) (P := ¬ nI cv.1 = 0) ((to_10 768 (by decide)).trans rfl) Iff.rfl (fun _ => (h_goto (k' := K_42) sk_42 nx')) (fun h0 => ?_)
  have c0 : cv.1 = 0 := hc0 (Classical.not_not.mp h0)
  refine h_pure 2 (k' := (kl_10.drop 37 ++ K_11)) (lv' := (lwv n (some (vI (nI cv.1))) (some (vI v)))) (st' := [vI 0, vR 900]) rfl ?_
  refine h_lald ?_
  have e3 : v = cv.2 := g3 c0
  subst e3
  rw [g1, h9 c0]
  refine h_pure 1 (k' := (kl_10.drop 39 ++ K_11)) (lv' := (lwv n (some (vI (nI cv.1))) (some (vI cv.2)))) (st' := [vI cv.2, vL (id cv.2)]) rfl ?_
  refine h_i2l (h_lcmp ?_)
  rw [show am_lcmp (id cv.2) cv.2 = 0 from am_lcmp_self _]
  exact h_if1 (k' := (kl_10.drop 44 ++ K_11)) (P := True) ((to_10 768 (by decide)).trans rfl) ⟨fun _ => trivial, fun _ => rfl⟩ (fun _ => (h_goto (k' := K_42) sk_42 nx')) (fun h => absurd trivial h)
/-- debt -/
theorem lc_10 {X : Nat × (Nat → Int32)} {n : Nat} {p : Nat → Nat} {sg : Mg} {kc ks B2 : Nat} {o5 o6 : Option AV} {Q : am_R → Prop} (hX : X.1 < 2147483648) (hn : n + 6 ≤ X.1) {Af As : AS} {cv : Nat × Int32} (hw : gF X 41 326 [vR 0, vI (X.2 (n + 1)), vI (X.2 (n + 2)), vR 900] p sg (wR Af As cv id sg)) (hm : mOK X B2 242 [vI (X.2 (n + 1)), vI (X.2 (n + 2))] Af As cv sg) (hc0 : nI cv.1 = 0 → cv.1 = 0) (nx : NX X n B2 kc ks Q) : hL X 41 k_352 [] K_11 (lwv n o5 o6) [] p sg kc ks Q := by
  refine h_pure 1 (k' := (kl_11.drop 1 ++ K_12)) (lv' := (lwv n o5 o6)) (st' := [vR 0]) rfl ?_
  refine h_pure 4 (k' := (kl_11.drop 5 ++ K_12)) (lv' := (lwv n o5 o6)) (st' := [vI (nI n + 1), vX, vR 0]) rfl ?_
  refine h_sld (j := n + 1) (nI_add n 1) (by omega) hX ?_
  refine h_pure 4 (k' := (kl_11.drop 10 ++ K_12)) (lv' := (lwv n o5 o6)) (st' := [vI (nI n + 2), vX, vI (X.2 (n + 1)), vR 0]) rfl ?_
  refine h_sld (j := n + 2) (nI_add n 2) (by omega) hX ?_
  refine h_pure 1 (k' := (kl_11.drop 12 ++ K_12)) (lv' := (lwv n o5 o6)) (st' := [vR 900, vI (X.2 (n + 2)), vI (X.2 (n + 1)), vR 0]) rfl ?_
  refine h_calS (args := [vR 0, vI (X.2 (n + 1)), vI (X.2 (n + 2)), vR 900]) (rest := []) rfl rfl (by decide) hw (fun r hr => ?_)
  obtain ⟨p', s, h1, hr⟩ := hr
  obtain ⟨kd, sd, hk1, hk2, e⟩ : ∃ kd sd, kd ≤ 1 ∧ sd ≤ 6 ∧ r = ((gE p', s), .inl (some (vI (nI cv.1))), kd, sd) := by
    rcases hr with ⟨c0, -, -, e⟩ | ⟨c0, -, e⟩
    · exact ⟨0, 0, Nat.zero_le _, Nat.zero_le _, by rw [e, c0]; rfl⟩
    · exact ⟨1, 6, Nat.le_refl _, Nat.le_refl _, e⟩
  have hRC : RC (if cv.1 = 0 then As else Af) p' s := by
    rcases hr with ⟨c0, h, -, -⟩ | ⟨c0, h, -⟩
    · rw [if_pos c0]; exact h
    · rw [if_neg c0]; exact h
  have h9 : cv.1 = 0 → s 900 0 = id cv.2 := by
    intro c0
    rcases hr with ⟨-, -, h, -⟩ | ⟨c1, -, -⟩
    · exact h
    · exact absurd c0 c1
  subst e
  show hL X 41 k_352 [] (kl_11.drop 13 ++ K_12) (lwv n o5 o6) [vI (nI cv.1)] p' s (kc + kd) (ks + sd) Q
  refine h_pure 2 (k' := (kl_11.drop 15 ++ K_12)) (lv' := (lwv n (some (vI (nI cv.1))) o6)) (st' := [vR 800]) rfl ?_
  refine h_pure 4 (k' := (kl_11.drop 19 ++ K_12)) (lv' := (lwv n (some (vI (nI cv.1))) o6)) (st' := [vI (nI n + 1), vX, vR 800]) rfl ?_
  refine h_sld (j := n + 1) (nI_add n 1) (by omega) hX ?_
  refine h_pure 4 (k' := (kl_11.drop 24 ++ K_12)) (lv' := (lwv n (some (vI (nI cv.1))) o6)) (st' := [vI (nI n + 2), vX, vI (X.2 (n + 1)), vR 800]) rfl ?_
  refine h_sld (j := n + 2) (nI_add n 2) (by omega) hX ?_
  refine h_calV (args := [vR 800, vI (X.2 (n + 1)), vI (X.2 (n + 2))]) (rest := []) rfl rfl (by decide) (hm p' s h1 hRC) (fun r hr => ?_)
  obtain ⟨s2, v, A2, g1, g2, g3, rfl, gI, gC, gM⟩ := hr
  show hL X 41 k_352 [] (kl_11.drop 26 ++ K_12) (lwv n (some (vI (nI cv.1))) o6) [vI v] p' s2 (kc + kd) (ks + sd) Q
  refine h_pure 2 (k' := (kl_11.drop 28 ++ K_12)) (lv' := (lwv n (some (vI (nI cv.1))) (some (vI v)))) (st' := [vR 800]) rfl ?_
  refine h_calV (args := [vR 800]) (rest := []) rfl rfl (by decide) (s_178 (d := 40)) (fun r hr => ?_)
  subst hr
  rw [g2]
  show hL X 41 k_352 [] (kl_11.drop 29 ++ K_12) (lwv n (some (vI (nI cv.1))) (some (vI v))) [vI (nI cv.1)] p' s2 (kc + kd) (ks + sd) Q
  refine h_pure 1 (k' := (kl_11.drop 30 ++ K_12)) (lv' := (lwv n (some (vI (nI cv.1))) (some (vI v)))) (st' := [vI (nI cv.1), vI (nI cv.1)]) rfl ?_
  refine h_if2 (k' := (kl_11.drop 33 ++ K_12)) (P := True) ((to_11 819 (by decide)).trans rfl) ⟨fun _ => trivial, fun _ => rfl⟩ (fun _ => ?_) (fun h => absurd trivial h)
  have nx' := nx A2 p' s2 (kc + kd) (ks + sd) (some (vI (nI cv.1))) (some (vI v)) gI gC gM (by omega) (by omega)
  refine h_pure 1 (k' := (kl_11.drop 34 ++ K_12)) (lv' := (lwv n (some (vI (nI cv.1))) (some (vI v)))) (st' := [vI (nI cv.1)]) rfl ?_
  refine h_if1 (k' := (kl_11.drop 44 ++ K_12)) (P := ¬ nI cv.1 = 0) ((to_11 836 (by decide)).trans rfl) Iff.rfl (fun _ => (h_goto (k' := K_42) sk_42 nx')) (fun h0 => ?_)
  have c0 : cv.1 = 0 := hc0 (Classical.not_not.mp h0)
  refine h_pure 2 (k' := (kl_11.drop 37 ++ K_12)) (lv' := (lwv n (some (vI (nI cv.1))) (some (vI v)))) (st' := [vI 0, vR 900]) rfl ?_
  refine h_lald ?_
  have e3 : v = cv.2 := g3 c0
  subst e3
  rw [g1, h9 c0]
  refine h_pure 1 (k' := (kl_11.drop 39 ++ K_12)) (lv' := (lwv n (some (vI (nI cv.1))) (some (vI cv.2)))) (st' := [vI cv.2, vL (id cv.2)]) rfl ?_
  refine h_i2l (h_lcmp ?_)
  rw [show am_lcmp (id cv.2) cv.2 = 0 from am_lcmp_self _]
  exact h_if1 (k' := (kl_11.drop 44 ++ K_12)) (P := True) ((to_11 836 (by decide)).trans rfl) ⟨fun _ => trivial, fun _ => rfl⟩ (fun _ => (h_goto (k' := K_42) sk_42 nx')) (fun h => absurd trivial h)
/-- task -/
theorem lc_11 {X : Nat × (Nat → Int32)} {n : Nat} {p : Nat → Nat} {sg : Mg} {kc ks B2 : Nat} {o5 o6 : Option AV} {Q : am_R → Prop} (hX : X.1 < 2147483648) (hn : n + 6 ≤ X.1) {Af As : AS} {cv : Nat × Int32} (hw : gF X 41 327 [vR 0, vI (X.2 (n + 1)), vI (X.2 (n + 2)), vR 900] p sg (wR Af As cv id sg)) (hm : mOK X B2 244 [vI (X.2 (n + 1)), vI (X.2 (n + 2))] Af As cv sg) (hc0 : nI cv.1 = 0 → cv.1 = 0) (nx : NX X n B2 kc ks Q) : hL X 41 k_352 [] K_12 (lwv n o5 o6) [] p sg kc ks Q := by
  refine h_pure 1 (k' := (kl_12.drop 1 ++ K_13)) (lv' := (lwv n o5 o6)) (st' := [vR 0]) rfl ?_
  refine h_pure 4 (k' := (kl_12.drop 5 ++ K_13)) (lv' := (lwv n o5 o6)) (st' := [vI (nI n + 1), vX, vR 0]) rfl ?_
  refine h_sld (j := n + 1) (nI_add n 1) (by omega) hX ?_
  refine h_pure 4 (k' := (kl_12.drop 10 ++ K_13)) (lv' := (lwv n o5 o6)) (st' := [vI (nI n + 2), vX, vI (X.2 (n + 1)), vR 0]) rfl ?_
  refine h_sld (j := n + 2) (nI_add n 2) (by omega) hX ?_
  refine h_pure 1 (k' := (kl_12.drop 12 ++ K_13)) (lv' := (lwv n o5 o6)) (st' := [vR 900, vI (X.2 (n + 2)), vI (X.2 (n + 1)), vR 0]) rfl ?_
  refine h_calS (args := [vR 0, vI (X.2 (n + 1)), vI (X.2 (n + 2)), vR 900]) (rest := []) rfl rfl (by decide) hw (fun r hr => ?_)
  obtain ⟨p', s, h1, hr⟩ := hr
  obtain ⟨kd, sd, hk1, hk2, e⟩ : ∃ kd sd, kd ≤ 1 ∧ sd ≤ 6 ∧ r = ((gE p', s), .inl (some (vI (nI cv.1))), kd, sd) := by
    rcases hr with ⟨c0, -, -, e⟩ | ⟨c0, -, e⟩
    · exact ⟨0, 0, Nat.zero_le _, Nat.zero_le _, by rw [e, c0]; rfl⟩
    · exact ⟨1, 6, Nat.le_refl _, Nat.le_refl _, e⟩
  have hRC : RC (if cv.1 = 0 then As else Af) p' s := by
    rcases hr with ⟨c0, h, -, -⟩ | ⟨c0, h, -⟩
    · rw [if_pos c0]; exact h
    · rw [if_neg c0]; exact h
  have h9 : cv.1 = 0 → s 900 0 = id cv.2 := by
    intro c0
    rcases hr with ⟨-, -, h, -⟩ | ⟨c1, -, -⟩
    · exact h
    · exact absurd c0 c1
  subst e
  show hL X 41 k_352 [] (kl_12.drop 13 ++ K_13) (lwv n o5 o6) [vI (nI cv.1)] p' s (kc + kd) (ks + sd) Q
  refine h_pure 2 (k' := (kl_12.drop 15 ++ K_13)) (lv' := (lwv n (some (vI (nI cv.1))) o6)) (st' := [vR 800]) rfl ?_
  refine h_pure 4 (k' := (kl_12.drop 19 ++ K_13)) (lv' := (lwv n (some (vI (nI cv.1))) o6)) (st' := [vI (nI n + 1), vX, vR 800]) rfl ?_
  refine h_sld (j := n + 1) (nI_add n 1) (by omega) hX ?_
  refine h_pure 4 (k' := (kl_12.drop 24 ++ K_13)) (lv' := (lwv n (some (vI (nI cv.1))) o6)) (st' := [vI (nI n + 2), vX, vI (X.2 (n + 1)), vR 800]) rfl ?_
  refine h_sld (j := n + 2) (nI_add n 2) (by omega) hX ?_
  refine h_calV (args := [vR 800, vI (X.2 (n + 1)), vI (X.2 (n + 2))]) (rest := []) rfl rfl (by decide) (hm p' s h1 hRC) (fun r hr => ?_)
  obtain ⟨s2, v, A2, g1, g2, g3, rfl, gI, gC, gM⟩ := hr
  show hL X 41 k_352 [] (kl_12.drop 26 ++ K_13) (lwv n (some (vI (nI cv.1))) o6) [vI v] p' s2 (kc + kd) (ks + sd) Q
  refine h_pure 2 (k' := (kl_12.drop 28 ++ K_13)) (lv' := (lwv n (some (vI (nI cv.1))) (some (vI v)))) (st' := [vR 800]) rfl ?_
  refine h_calV (args := [vR 800]) (rest := []) rfl rfl (by decide) (s_178 (d := 40)) (fun r hr => ?_)
  subst hr
  rw [g2]
  show hL X 41 k_352 [] (kl_12.drop 29 ++ K_13) (lwv n (some (vI (nI cv.1))) (some (vI v))) [vI (nI cv.1)] p' s2 (kc + kd) (ks + sd) Q
  refine h_pure 1 (k' := (kl_12.drop 30 ++ K_13)) (lv' := (lwv n (some (vI (nI cv.1))) (some (vI v)))) (st' := [vI (nI cv.1), vI (nI cv.1)]) rfl ?_
  refine h_if2 (k' := (kl_12.drop 33 ++ K_13)) (P := True) ((to_12 887 (by decide)).trans rfl) ⟨fun _ => trivial, fun _ => rfl⟩ (fun _ => ?_) (fun h => absurd trivial h)
  have nx' := nx A2 p' s2 (kc + kd) (ks + sd) (some (vI (nI cv.1))) (some (vI v)) gI gC gM (by omega) (by omega)
  refine h_pure 1 (k' := (kl_12.drop 34 ++ K_13)) (lv' := (lwv n (some (vI (nI cv.1))) (some (vI v)))) (st' := [vI (nI cv.1)]) rfl ?_
  refine h_if1 (k' := (kl_12.drop 44 ++ K_13)) (P := ¬ nI cv.1 = 0) ((to_12 904 (by decide)).trans rfl) Iff.rfl (fun _ => (h_goto (k' := K_42) sk_42 nx')) (fun h0 => ?_)
  have c0 : cv.1 = 0 := hc0 (Classical.not_not.mp h0)
  refine h_pure 2 (k' := (kl_12.drop 37 ++ K_13)) (lv' := (lwv n (some (vI (nI cv.1))) (some (vI v)))) (st' := [vI 0, vR 900]) rfl ?_
  refine h_lald ?_
  have e3 : v = cv.2 := g3 c0
  subst e3
  rw [g1, h9 c0]
  refine h_pure 1 (k' := (kl_12.drop 39 ++ K_13)) (lv' := (lwv n (some (vI (nI cv.1))) (some (vI cv.2)))) (st' := [vI cv.2, vL (id cv.2)]) rfl ?_
  refine h_i2l (h_lcmp ?_)
  rw [show am_lcmp (id cv.2) cv.2 = 0 from am_lcmp_self _]
  exact h_if1 (k' := (kl_12.drop 44 ++ K_13)) (P := True) ((to_12 904 (by decide)).trans rfl) ⟨fun _ => trivial, fun _ => rfl⟩ (fun _ => (h_goto (k' := K_42) sk_42 nx')) (fun h => absurd trivial h)
/-- fact -/
theorem lc_12 {X : Nat × (Nat → Int32)} {n : Nat} {p : Nat → Nat} {sg : Mg} {kc ks B2 : Nat} {o5 o6 : Option AV} {Q : am_R → Prop} (hX : X.1 < 2147483648) (hn : n + 6 ≤ X.1) {Af As : AS} {cv : Nat × Int32} (hw : gF X 41 328 [vR 0, vI (X.2 (n + 1)), vI (if X.2 (n + 2) ≠ 0 then 1 else 0), vR 900] p sg (wR Af As cv id sg)) (hm : mOK X B2 246 [vI (X.2 (n + 1)), vI (if X.2 (n + 2) ≠ 0 then 1 else 0)] Af As cv sg) (hc0 : nI cv.1 = 0 → cv.1 = 0) (nx : NX X n B2 kc ks Q) : hL X 41 k_352 [] K_13 (lwv n o5 o6) [] p sg kc ks Q := by
  refine h_pure 1 (k' := (kl_13.drop 1 ++ K_14)) (lv' := (lwv n o5 o6)) (st' := [vR 0]) rfl ?_
  refine h_pure 4 (k' := (kl_13.drop 5 ++ K_14)) (lv' := (lwv n o5 o6)) (st' := [vI (nI n + 1), vX, vR 0]) rfl ?_
  refine h_sld (j := n + 1) (nI_add n 1) (by omega) hX ?_
  refine h_pure 4 (k' := (kl_13.drop 10 ++ K_14)) (lv' := (lwv n o5 o6)) (st' := [vI (nI n + 2), vX, vI (X.2 (n + 1)), vR 0]) rfl ?_
  refine h_sld (j := n + 2) (nI_add n 2) (by omega) hX ?_
  refine h_bool ((to_13 927 (by decide)).trans rfl) ((to_13 928 (by decide)).trans rfl) ?_
  refine h_pure 1 (k' := (kl_13.drop 16 ++ K_14)) (lv' := (lwv n o5 o6)) (st' := [vR 900, vI (if X.2 (n + 2) ≠ 0 then 1 else 0), vI (X.2 (n + 1)), vR 0]) rfl ?_
  refine h_calS (args := [vR 0, vI (X.2 (n + 1)), vI (if X.2 (n + 2) ≠ 0 then 1 else 0), vR 900]) (rest := []) rfl rfl (by decide) hw (fun r hr => ?_)
  obtain ⟨p', s, h1, hr⟩ := hr
  obtain ⟨kd, sd, hk1, hk2, e⟩ : ∃ kd sd, kd ≤ 1 ∧ sd ≤ 6 ∧ r = ((gE p', s), .inl (some (vI (nI cv.1))), kd, sd) := by
    rcases hr with ⟨c0, -, -, e⟩ | ⟨c0, -, e⟩
    · exact ⟨0, 0, Nat.zero_le _, Nat.zero_le _, by rw [e, c0]; rfl⟩
    · exact ⟨1, 6, Nat.le_refl _, Nat.le_refl _, e⟩
  have hRC : RC (if cv.1 = 0 then As else Af) p' s := by
    rcases hr with ⟨c0, h, -, -⟩ | ⟨c0, h, -⟩
    · rw [if_pos c0]; exact h
    · rw [if_neg c0]; exact h
  have h9 : cv.1 = 0 → s 900 0 = id cv.2 := by
    intro c0
    rcases hr with ⟨-, -, h, -⟩ | ⟨c1, -, -⟩
    · exact h
    · exact absurd c0 c1
  subst e
  show hL X 41 k_352 [] (kl_13.drop 17 ++ K_14) (lwv n o5 o6) [vI (nI cv.1)] p' s (kc + kd) (ks + sd) Q
  refine h_pure 2 (k' := (kl_13.drop 19 ++ K_14)) (lv' := (lwv n (some (vI (nI cv.1))) o6)) (st' := [vR 800]) rfl ?_
  refine h_pure 4 (k' := (kl_13.drop 23 ++ K_14)) (lv' := (lwv n (some (vI (nI cv.1))) o6)) (st' := [vI (nI n + 1), vX, vR 800]) rfl ?_
  refine h_sld (j := n + 1) (nI_add n 1) (by omega) hX ?_
  refine h_pure 4 (k' := (kl_13.drop 28 ++ K_14)) (lv' := (lwv n (some (vI (nI cv.1))) o6)) (st' := [vI (nI n + 2), vX, vI (X.2 (n + 1)), vR 800]) rfl ?_
  refine h_sld (j := n + 2) (nI_add n 2) (by omega) hX ?_
  refine h_bool ((to_13 954 (by decide)).trans rfl) ((to_13 955 (by decide)).trans rfl) ?_
  refine h_calV (args := [vR 800, vI (X.2 (n + 1)), vI (if X.2 (n + 2) ≠ 0 then 1 else 0)]) (rest := []) rfl rfl (by decide) (hm p' s h1 hRC) (fun r hr => ?_)
  obtain ⟨s2, v, A2, g1, g2, g3, rfl, gI, gC, gM⟩ := hr
  show hL X 41 k_352 [] (kl_13.drop 34 ++ K_14) (lwv n (some (vI (nI cv.1))) o6) [vI v] p' s2 (kc + kd) (ks + sd) Q
  refine h_pure 2 (k' := (kl_13.drop 36 ++ K_14)) (lv' := (lwv n (some (vI (nI cv.1))) (some (vI v)))) (st' := [vR 800]) rfl ?_
  refine h_calV (args := [vR 800]) (rest := []) rfl rfl (by decide) (s_178 (d := 40)) (fun r hr => ?_)
  subst hr
  rw [g2]
  show hL X 41 k_352 [] (kl_13.drop 37 ++ K_14) (lwv n (some (vI (nI cv.1))) (some (vI v))) [vI (nI cv.1)] p' s2 (kc + kd) (ks + sd) Q
  refine h_pure 1 (k' := (kl_13.drop 38 ++ K_14)) (lv' := (lwv n (some (vI (nI cv.1))) (some (vI v)))) (st' := [vI (nI cv.1), vI (nI cv.1)]) rfl ?_
  refine h_if2 (k' := (kl_13.drop 41 ++ K_14)) (P := True) ((to_13 971 (by decide)).trans rfl) ⟨fun _ => trivial, fun _ => rfl⟩ (fun _ => ?_) (fun h => absurd trivial h)
  have nx' := nx A2 p' s2 (kc + kd) (ks + sd) (some (vI (nI cv.1))) (some (vI v)) gI gC gM (by omega) (by omega)
  refine h_pure 1 (k' := (kl_13.drop 42 ++ K_14)) (lv' := (lwv n (some (vI (nI cv.1))) (some (vI v)))) (st' := [vI (nI cv.1)]) rfl ?_
  refine h_if1 (k' := (kl_13.drop 52 ++ K_14)) (P := ¬ nI cv.1 = 0) ((to_13 988 (by decide)).trans rfl) Iff.rfl (fun _ => (h_goto (k' := K_42) sk_42 nx')) (fun h0 => ?_)
  have c0 : cv.1 = 0 := hc0 (Classical.not_not.mp h0)
  refine h_pure 2 (k' := (kl_13.drop 45 ++ K_14)) (lv' := (lwv n (some (vI (nI cv.1))) (some (vI v)))) (st' := [vI 0, vR 900]) rfl ?_
  refine h_lald ?_
  have e3 : v = cv.2 := g3 c0
  subst e3
  rw [g1, h9 c0]
  refine h_pure 1 (k' := (kl_13.drop 47 ++ K_14)) (lv' := (lwv n (some (vI (nI cv.1))) (some (vI cv.2)))) (st' := [vI cv.2, vL (id cv.2)]) rfl ?_
  refine h_i2l (h_lcmp ?_)
  rw [show am_lcmp (id cv.2) cv.2 = 0 from am_lcmp_self _]
  exact h_if1 (k' := (kl_13.drop 52 ++ K_14)) (P := True) ((to_13 988 (by decide)).trans rfl) ⟨fun _ => trivial, fun _ => rfl⟩ (fun _ => (h_goto (k' := K_42) sk_42 nx')) (fun h => absurd trivial h)
/-- rule -/
theorem lc_13 {X : Nat × (Nat → Int32)} {n : Nat} {p : Nat → Nat} {sg : Mg} {kc ks B2 : Nat} {o5 o6 : Option AV} {Q : am_R → Prop} (hX : X.1 < 2147483648) (hn : n + 6 ≤ X.1) {Af As : AS} {cv : Nat × Int32} (hw : gF X 41 329 [vR 0, vI (X.2 (n + 1)), vI (X.2 (n + 2)), vI (X.2 (n + 3)), vR 900] p sg (wR Af As cv id sg)) (hm : mOK X B2 247 [vI (X.2 (n + 1)), vI (X.2 (n + 2)), vI (X.2 (n + 3))] Af As cv sg) (hc0 : nI cv.1 = 0 → cv.1 = 0) (nx : NX X n B2 kc ks Q) : hL X 41 k_352 [] K_14 (lwv n o5 o6) [] p sg kc ks Q := by
  refine h_pure 1 (k' := (kl_14.drop 1 ++ K_15)) (lv' := (lwv n o5 o6)) (st' := [vR 0]) rfl ?_
  refine h_pure 4 (k' := (kl_14.drop 5 ++ K_15)) (lv' := (lwv n o5 o6)) (st' := [vI (nI n + 1), vX, vR 0]) rfl ?_
  refine h_sld (j := n + 1) (nI_add n 1) (by omega) hX ?_
  refine h_pure 4 (k' := (kl_14.drop 10 ++ K_15)) (lv' := (lwv n o5 o6)) (st' := [vI (nI n + 2), vX, vI (X.2 (n + 1)), vR 0]) rfl ?_
  refine h_sld (j := n + 2) (nI_add n 2) (by omega) hX ?_
  refine h_pure 4 (k' := (kl_14.drop 15 ++ K_15)) (lv' := (lwv n o5 o6)) (st' := [vI (nI n + 3), vX, vI (X.2 (n + 2)), vI (X.2 (n + 1)), vR 0]) rfl ?_
  refine h_sld (j := n + 3) (nI_add n 3) (by omega) hX ?_
  refine h_pure 1 (k' := (kl_14.drop 17 ++ K_15)) (lv' := (lwv n o5 o6)) (st' := [vR 900, vI (X.2 (n + 3)), vI (X.2 (n + 2)), vI (X.2 (n + 1)), vR 0]) rfl ?_
  refine h_calS (args := [vR 0, vI (X.2 (n + 1)), vI (X.2 (n + 2)), vI (X.2 (n + 3)), vR 900]) (rest := []) rfl rfl (by decide) hw (fun r hr => ?_)
  obtain ⟨p', s, h1, hr⟩ := hr
  obtain ⟨kd, sd, hk1, hk2, e⟩ : ∃ kd sd, kd ≤ 1 ∧ sd ≤ 6 ∧ r = ((gE p', s), .inl (some (vI (nI cv.1))), kd, sd) := by
    rcases hr with ⟨c0, -, -, e⟩ | ⟨c0, -, e⟩
    · exact ⟨0, 0, Nat.zero_le _, Nat.zero_le _, by rw [e, c0]; rfl⟩
    · exact ⟨1, 6, Nat.le_refl _, Nat.le_refl _, e⟩
  have hRC : RC (if cv.1 = 0 then As else Af) p' s := by
    rcases hr with ⟨c0, h, -, -⟩ | ⟨c0, h, -⟩
    · rw [if_pos c0]; exact h
    · rw [if_neg c0]; exact h
  have h9 : cv.1 = 0 → s 900 0 = id cv.2 := by
    intro c0
    rcases hr with ⟨-, -, h, -⟩ | ⟨c1, -, -⟩
    · exact h
    · exact absurd c0 c1
  subst e
  show hL X 41 k_352 [] (kl_14.drop 18 ++ K_15) (lwv n o5 o6) [vI (nI cv.1)] p' s (kc + kd) (ks + sd) Q
  refine h_pure 2 (k' := (kl_14.drop 20 ++ K_15)) (lv' := (lwv n (some (vI (nI cv.1))) o6)) (st' := [vR 800]) rfl ?_
  refine h_pure 4 (k' := (kl_14.drop 24 ++ K_15)) (lv' := (lwv n (some (vI (nI cv.1))) o6)) (st' := [vI (nI n + 1), vX, vR 800]) rfl ?_
  refine h_sld (j := n + 1) (nI_add n 1) (by omega) hX ?_
  refine h_pure 4 (k' := (kl_14.drop 29 ++ K_15)) (lv' := (lwv n (some (vI (nI cv.1))) o6)) (st' := [vI (nI n + 2), vX, vI (X.2 (n + 1)), vR 800]) rfl ?_
  refine h_sld (j := n + 2) (nI_add n 2) (by omega) hX ?_
  refine h_pure 4 (k' := (kl_14.drop 34 ++ K_15)) (lv' := (lwv n (some (vI (nI cv.1))) o6)) (st' := [vI (nI n + 3), vX, vI (X.2 (n + 2)), vI (X.2 (n + 1)), vR 800]) rfl ?_
  refine h_sld (j := n + 3) (nI_add n 3) (by omega) hX ?_
  refine h_calV (args := [vR 800, vI (X.2 (n + 1)), vI (X.2 (n + 2)), vI (X.2 (n + 3))]) (rest := []) rfl rfl (by decide) (hm p' s h1 hRC) (fun r hr => ?_)
  obtain ⟨s2, v, A2, g1, g2, g3, rfl, gI, gC, gM⟩ := hr
  show hL X 41 k_352 [] (kl_14.drop 36 ++ K_15) (lwv n (some (vI (nI cv.1))) o6) [vI v] p' s2 (kc + kd) (ks + sd) Q
  refine h_pure 2 (k' := (kl_14.drop 38 ++ K_15)) (lv' := (lwv n (some (vI (nI cv.1))) (some (vI v)))) (st' := [vR 800]) rfl ?_
  refine h_calV (args := [vR 800]) (rest := []) rfl rfl (by decide) (s_178 (d := 40)) (fun r hr => ?_)
  subst hr
  rw [g2]
  show hL X 41 k_352 [] (kl_14.drop 39 ++ K_15) (lwv n (some (vI (nI cv.1))) (some (vI v))) [vI (nI cv.1)] p' s2 (kc + kd) (ks + sd) Q
  refine h_pure 1 (k' := (kl_14.drop 40 ++ K_15)) (lv' := (lwv n (some (vI (nI cv.1))) (some (vI v)))) (st' := [vI (nI cv.1), vI (nI cv.1)]) rfl ?_
  refine h_if2 (k' := (kl_14.drop 43 ++ K_15)) (P := True) ((to_14 1051 (by decide)).trans rfl) ⟨fun _ => trivial, fun _ => rfl⟩ (fun _ => ?_) (fun h => absurd trivial h)
  have nx' := nx A2 p' s2 (kc + kd) (ks + sd) (some (vI (nI cv.1))) (some (vI v)) gI gC gM (by omega) (by omega)
  refine h_pure 1 (k' := (kl_14.drop 44 ++ K_15)) (lv' := (lwv n (some (vI (nI cv.1))) (some (vI v)))) (st' := [vI (nI cv.1)]) rfl ?_
  refine h_if1 (k' := (kl_14.drop 54 ++ K_15)) (P := ¬ nI cv.1 = 0) ((to_14 1068 (by decide)).trans rfl) Iff.rfl (fun _ => (h_goto (k' := K_42) sk_42 nx')) (fun h0 => ?_)
  have c0 : cv.1 = 0 := hc0 (Classical.not_not.mp h0)
  refine h_pure 2 (k' := (kl_14.drop 47 ++ K_15)) (lv' := (lwv n (some (vI (nI cv.1))) (some (vI v)))) (st' := [vI 0, vR 900]) rfl ?_
  refine h_lald ?_
  have e3 : v = cv.2 := g3 c0
  subst e3
  rw [g1, h9 c0]
  refine h_pure 1 (k' := (kl_14.drop 49 ++ K_15)) (lv' := (lwv n (some (vI (nI cv.1))) (some (vI cv.2)))) (st' := [vI cv.2, vL (id cv.2)]) rfl ?_
  refine h_i2l (h_lcmp ?_)
  rw [show am_lcmp (id cv.2) cv.2 = 0 from am_lcmp_self _]
  exact h_if1 (k' := (kl_14.drop 54 ++ K_15)) (P := True) ((to_14 1068 (by decide)).trans rfl) ⟨fun _ => trivial, fun _ => rfl⟩ (fun _ => (h_goto (k' := K_42) sk_42 nx')) (fun h => absurd trivial h)
/-- go -/
theorem lc_14 {X : Nat × (Nat → Int32)} {n : Nat} {p : Nat → Nat} {sg : Mg} {kc ks B2 : Nat} {o5 o6 : Option AV} {Q : am_R → Prop} (hX : X.1 < 2147483648) (hn : n + 6 ≤ X.1) {Af As : AS} {cv : Nat × Int32} (hw : gF X 41 330 [vR 0, vI (X.2 (n + 1)), vI (X.2 (n + 2)), vR 900] p sg (wR Af As cv id sg)) (hm : mOK X B2 252 [vI (X.2 (n + 1)), vI (X.2 (n + 2))] Af As cv sg) (hc0 : nI cv.1 = 0 → cv.1 = 0) (nx : NX X n B2 kc ks Q) : hL X 41 k_352 [] K_15 (lwv n o5 o6) [] p sg kc ks Q := by
  refine h_pure 1 (k' := (kl_15.drop 1 ++ K_16)) (lv' := (lwv n o5 o6)) (st' := [vR 0]) rfl ?_
  refine h_pure 4 (k' := (kl_15.drop 5 ++ K_16)) (lv' := (lwv n o5 o6)) (st' := [vI (nI n + 1), vX, vR 0]) rfl ?_
  refine h_sld (j := n + 1) (nI_add n 1) (by omega) hX ?_
  refine h_pure 4 (k' := (kl_15.drop 10 ++ K_16)) (lv' := (lwv n o5 o6)) (st' := [vI (nI n + 2), vX, vI (X.2 (n + 1)), vR 0]) rfl ?_
  refine h_sld (j := n + 2) (nI_add n 2) (by omega) hX ?_
  refine h_pure 1 (k' := (kl_15.drop 12 ++ K_16)) (lv' := (lwv n o5 o6)) (st' := [vR 900, vI (X.2 (n + 2)), vI (X.2 (n + 1)), vR 0]) rfl ?_
  refine h_calS (args := [vR 0, vI (X.2 (n + 1)), vI (X.2 (n + 2)), vR 900]) (rest := []) rfl rfl (by decide) hw (fun r hr => ?_)
  obtain ⟨p', s, h1, hr⟩ := hr
  obtain ⟨kd, sd, hk1, hk2, e⟩ : ∃ kd sd, kd ≤ 1 ∧ sd ≤ 6 ∧ r = ((gE p', s), .inl (some (vI (nI cv.1))), kd, sd) := by
    rcases hr with ⟨c0, -, -, e⟩ | ⟨c0, -, e⟩
    · exact ⟨0, 0, Nat.zero_le _, Nat.zero_le _, by rw [e, c0]; rfl⟩
    · exact ⟨1, 6, Nat.le_refl _, Nat.le_refl _, e⟩
  have hRC : RC (if cv.1 = 0 then As else Af) p' s := by
    rcases hr with ⟨c0, h, -, -⟩ | ⟨c0, h, -⟩
    · rw [if_pos c0]; exact h
    · rw [if_neg c0]; exact h
  have h9 : cv.1 = 0 → s 900 0 = id cv.2 := by
    intro c0
    rcases hr with ⟨-, -, h, -⟩ | ⟨c1, -, -⟩
    · exact h
    · exact absurd c0 c1
  subst e
  show hL X 41 k_352 [] (kl_15.drop 13 ++ K_16) (lwv n o5 o6) [vI (nI cv.1)] p' s (kc + kd) (ks + sd) Q
  refine h_pure 2 (k' := (kl_15.drop 15 ++ K_16)) (lv' := (lwv n (some (vI (nI cv.1))) o6)) (st' := [vR 800]) rfl ?_
  refine h_pure 4 (k' := (kl_15.drop 19 ++ K_16)) (lv' := (lwv n (some (vI (nI cv.1))) o6)) (st' := [vI (nI n + 1), vX, vR 800]) rfl ?_
  refine h_sld (j := n + 1) (nI_add n 1) (by omega) hX ?_
  refine h_pure 4 (k' := (kl_15.drop 24 ++ K_16)) (lv' := (lwv n (some (vI (nI cv.1))) o6)) (st' := [vI (nI n + 2), vX, vI (X.2 (n + 1)), vR 800]) rfl ?_
  refine h_sld (j := n + 2) (nI_add n 2) (by omega) hX ?_
  refine h_calV (args := [vR 800, vI (X.2 (n + 1)), vI (X.2 (n + 2))]) (rest := []) rfl rfl (by decide) (hm p' s h1 hRC) (fun r hr => ?_)
  obtain ⟨s2, v, A2, g1, g2, g3, rfl, gI, gC, gM⟩ := hr
  show hL X 41 k_352 [] (kl_15.drop 26 ++ K_16) (lwv n (some (vI (nI cv.1))) o6) [vI v] p' s2 (kc + kd) (ks + sd) Q
  refine h_pure 2 (k' := (kl_15.drop 28 ++ K_16)) (lv' := (lwv n (some (vI (nI cv.1))) (some (vI v)))) (st' := [vR 800]) rfl ?_
  refine h_calV (args := [vR 800]) (rest := []) rfl rfl (by decide) (s_178 (d := 40)) (fun r hr => ?_)
  subst hr
  rw [g2]
  show hL X 41 k_352 [] (kl_15.drop 29 ++ K_16) (lwv n (some (vI (nI cv.1))) (some (vI v))) [vI (nI cv.1)] p' s2 (kc + kd) (ks + sd) Q
  refine h_pure 1 (k' := (kl_15.drop 30 ++ K_16)) (lv' := (lwv n (some (vI (nI cv.1))) (some (vI v)))) (st' := [vI (nI cv.1), vI (nI cv.1)]) rfl ?_
  refine h_if2 (k' := (kl_15.drop 33 ++ K_16)) (P := True) ((to_15 1119 (by decide)).trans rfl) ⟨fun _ => trivial, fun _ => rfl⟩ (fun _ => ?_) (fun h => absurd trivial h)
  have nx' := nx A2 p' s2 (kc + kd) (ks + sd) (some (vI (nI cv.1))) (some (vI v)) gI gC gM (by omega) (by omega)
  refine h_pure 1 (k' := (kl_15.drop 34 ++ K_16)) (lv' := (lwv n (some (vI (nI cv.1))) (some (vI v)))) (st' := [vI (nI cv.1)]) rfl ?_
  refine h_if1 (k' := (kl_15.drop 44 ++ K_16)) (P := ¬ nI cv.1 = 0) ((to_15 1136 (by decide)).trans rfl) Iff.rfl (fun _ => (h_goto (k' := K_42) sk_42 nx')) (fun h0 => ?_)
  have c0 : cv.1 = 0 := hc0 (Classical.not_not.mp h0)
  refine h_pure 2 (k' := (kl_15.drop 37 ++ K_16)) (lv' := (lwv n (some (vI (nI cv.1))) (some (vI v)))) (st' := [vI 0, vR 900]) rfl ?_
  refine h_lald ?_
  have e3 : v = cv.2 := g3 c0
  subst e3
  rw [g1, h9 c0]
  refine h_pure 1 (k' := (kl_15.drop 39 ++ K_16)) (lv' := (lwv n (some (vI (nI cv.1))) (some (vI cv.2)))) (st' := [vI cv.2, vL (id cv.2)]) rfl ?_
  refine h_i2l (h_lcmp ?_)
  rw [show am_lcmp (id cv.2) cv.2 = 0 from am_lcmp_self _]
  exact h_if1 (k' := (kl_15.drop 44 ++ K_16)) (P := True) ((to_15 1136 (by decide)).trans rfl) ⟨fun _ => trivial, fun _ => rfl⟩ (fun _ => (h_goto (k' := K_42) sk_42 nx')) (fun h => absurd trivial h)
/-- give -/
theorem lc_15 {X : Nat × (Nat → Int32)} {n : Nat} {p : Nat → Nat} {sg : Mg} {kc ks B2 : Nat} {o5 o6 : Option AV} {Q : am_R → Prop} (hX : X.1 < 2147483648) (hn : n + 6 ≤ X.1) {Af As : AS} {cv : Nat × Int32} (hw : gF X 41 331 [vR 0, vI (X.2 (n + 1)), vI (X.2 (n + 2)), vI (X.2 (n + 3)), vR 900] p sg (wR Af As cv id sg)) (hm : mOK X B2 256 [vI (X.2 (n + 1)), vI (X.2 (n + 2)), vI (X.2 (n + 3))] Af As cv sg) (hc0 : nI cv.1 = 0 → cv.1 = 0) (nx : NX X n B2 kc ks Q) : hL X 41 k_352 [] K_16 (lwv n o5 o6) [] p sg kc ks Q := by
  refine h_pure 1 (k' := (kl_16.drop 1 ++ K_17)) (lv' := (lwv n o5 o6)) (st' := [vR 0]) rfl ?_
  refine h_pure 4 (k' := (kl_16.drop 5 ++ K_17)) (lv' := (lwv n o5 o6)) (st' := [vI (nI n + 1), vX, vR 0]) rfl ?_
  refine h_sld (j := n + 1) (nI_add n 1) (by omega) hX ?_
  refine h_pure 4 (k' := (kl_16.drop 10 ++ K_17)) (lv' := (lwv n o5 o6)) (st' := [vI (nI n + 2), vX, vI (X.2 (n + 1)), vR 0]) rfl ?_
  refine h_sld (j := n + 2) (nI_add n 2) (by omega) hX ?_
  refine h_pure 4 (k' := (kl_16.drop 15 ++ K_17)) (lv' := (lwv n o5 o6)) (st' := [vI (nI n + 3), vX, vI (X.2 (n + 2)), vI (X.2 (n + 1)), vR 0]) rfl ?_
  refine h_sld (j := n + 3) (nI_add n 3) (by omega) hX ?_
  refine h_pure 1 (k' := (kl_16.drop 17 ++ K_17)) (lv' := (lwv n o5 o6)) (st' := [vR 900, vI (X.2 (n + 3)), vI (X.2 (n + 2)), vI (X.2 (n + 1)), vR 0]) rfl ?_
  refine h_calS (args := [vR 0, vI (X.2 (n + 1)), vI (X.2 (n + 2)), vI (X.2 (n + 3)), vR 900]) (rest := []) rfl rfl (by decide) hw (fun r hr => ?_)
  obtain ⟨p', s, h1, hr⟩ := hr
  obtain ⟨kd, sd, hk1, hk2, e⟩ : ∃ kd sd, kd ≤ 1 ∧ sd ≤ 6 ∧ r = ((gE p', s), .inl (some (vI (nI cv.1))), kd, sd) := by
    rcases hr with ⟨c0, -, -, e⟩ | ⟨c0, -, e⟩
    · exact ⟨0, 0, Nat.zero_le _, Nat.zero_le _, by rw [e, c0]; rfl⟩
    · exact ⟨1, 6, Nat.le_refl _, Nat.le_refl _, e⟩
  have hRC : RC (if cv.1 = 0 then As else Af) p' s := by
    rcases hr with ⟨c0, h, -, -⟩ | ⟨c0, h, -⟩
    · rw [if_pos c0]; exact h
    · rw [if_neg c0]; exact h
  have h9 : cv.1 = 0 → s 900 0 = id cv.2 := by
    intro c0
    rcases hr with ⟨-, -, h, -⟩ | ⟨c1, -, -⟩
    · exact h
    · exact absurd c0 c1
  subst e
  show hL X 41 k_352 [] (kl_16.drop 18 ++ K_17) (lwv n o5 o6) [vI (nI cv.1)] p' s (kc + kd) (ks + sd) Q
  refine h_pure 2 (k' := (kl_16.drop 20 ++ K_17)) (lv' := (lwv n (some (vI (nI cv.1))) o6)) (st' := [vR 800]) rfl ?_
  refine h_pure 4 (k' := (kl_16.drop 24 ++ K_17)) (lv' := (lwv n (some (vI (nI cv.1))) o6)) (st' := [vI (nI n + 1), vX, vR 800]) rfl ?_
  refine h_sld (j := n + 1) (nI_add n 1) (by omega) hX ?_
  refine h_pure 4 (k' := (kl_16.drop 29 ++ K_17)) (lv' := (lwv n (some (vI (nI cv.1))) o6)) (st' := [vI (nI n + 2), vX, vI (X.2 (n + 1)), vR 800]) rfl ?_
  refine h_sld (j := n + 2) (nI_add n 2) (by omega) hX ?_
  refine h_pure 4 (k' := (kl_16.drop 34 ++ K_17)) (lv' := (lwv n (some (vI (nI cv.1))) o6)) (st' := [vI (nI n + 3), vX, vI (X.2 (n + 2)), vI (X.2 (n + 1)), vR 800]) rfl ?_
  refine h_sld (j := n + 3) (nI_add n 3) (by omega) hX ?_
  refine h_calV (args := [vR 800, vI (X.2 (n + 1)), vI (X.2 (n + 2)), vI (X.2 (n + 3))]) (rest := []) rfl rfl (by decide) (hm p' s h1 hRC) (fun r hr => ?_)
  obtain ⟨s2, v, A2, g1, g2, g3, rfl, gI, gC, gM⟩ := hr
  show hL X 41 k_352 [] (kl_16.drop 36 ++ K_17) (lwv n (some (vI (nI cv.1))) o6) [vI v] p' s2 (kc + kd) (ks + sd) Q
  refine h_pure 2 (k' := (kl_16.drop 38 ++ K_17)) (lv' := (lwv n (some (vI (nI cv.1))) (some (vI v)))) (st' := [vR 800]) rfl ?_
  refine h_calV (args := [vR 800]) (rest := []) rfl rfl (by decide) (s_178 (d := 40)) (fun r hr => ?_)
  subst hr
  rw [g2]
  show hL X 41 k_352 [] (kl_16.drop 39 ++ K_17) (lwv n (some (vI (nI cv.1))) (some (vI v))) [vI (nI cv.1)] p' s2 (kc + kd) (ks + sd) Q
  refine h_pure 1 (k' := (kl_16.drop 40 ++ K_17)) (lv' := (lwv n (some (vI (nI cv.1))) (some (vI v)))) (st' := [vI (nI cv.1), vI (nI cv.1)]) rfl ?_
  refine h_if2 (k' := (kl_16.drop 43 ++ K_17)) (P := True) ((to_16 1199 (by decide)).trans rfl) ⟨fun _ => trivial, fun _ => rfl⟩ (fun _ => ?_) (fun h => absurd trivial h)
  have nx' := nx A2 p' s2 (kc + kd) (ks + sd) (some (vI (nI cv.1))) (some (vI v)) gI gC gM (by omega) (by omega)
  refine h_pure 1 (k' := (kl_16.drop 44 ++ K_17)) (lv' := (lwv n (some (vI (nI cv.1))) (some (vI v)))) (st' := [vI (nI cv.1)]) rfl ?_
  refine h_if1 (k' := (kl_16.drop 54 ++ K_17)) (P := ¬ nI cv.1 = 0) ((to_16 1216 (by decide)).trans rfl) Iff.rfl (fun _ => (h_goto (k' := K_42) sk_42 nx')) (fun h0 => ?_)
  have c0 : cv.1 = 0 := hc0 (Classical.not_not.mp h0)
  refine h_pure 2 (k' := (kl_16.drop 47 ++ K_17)) (lv' := (lwv n (some (vI (nI cv.1))) (some (vI v)))) (st' := [vI 0, vR 900]) rfl ?_
  refine h_lald ?_
  have e3 : v = cv.2 := g3 c0
  subst e3
  rw [g1, h9 c0]
  refine h_pure 1 (k' := (kl_16.drop 49 ++ K_17)) (lv' := (lwv n (some (vI (nI cv.1))) (some (vI cv.2)))) (st' := [vI cv.2, vL (id cv.2)]) rfl ?_
  refine h_i2l (h_lcmp ?_)
  rw [show am_lcmp (id cv.2) cv.2 = 0 from am_lcmp_self _]
  exact h_if1 (k' := (kl_16.drop 54 ++ K_17)) (P := True) ((to_16 1216 (by decide)).trans rfl) ⟨fun _ => trivial, fun _ => rfl⟩ (fun _ => (h_goto (k' := K_42) sk_42 nx')) (fun h => absurd trivial h)
/-- work -/
theorem lc_16 {X : Nat × (Nat → Int32)} {n : Nat} {p : Nat → Nat} {sg : Mg} {kc ks B2 : Nat} {o5 o6 : Option AV} {Q : am_R → Prop} (hX : X.1 < 2147483648) (hn : n + 6 ≤ X.1) {Af As : AS} {cv : Nat × Int32} (hw : gF X 41 332 [vR 0, vI (X.2 (n + 1)), vI (X.2 (n + 2)), vR 900] p sg (wR Af As cv id sg)) (hm : mOK X B2 257 [vI (X.2 (n + 1)), vI (X.2 (n + 2))] Af As cv sg) (hc0 : nI cv.1 = 0 → cv.1 = 0) (nx : NX X n B2 kc ks Q) : hL X 41 k_352 [] K_17 (lwv n o5 o6) [] p sg kc ks Q := by
  refine h_pure 1 (k' := (kl_17.drop 1 ++ K_18)) (lv' := (lwv n o5 o6)) (st' := [vR 0]) rfl ?_
  refine h_pure 4 (k' := (kl_17.drop 5 ++ K_18)) (lv' := (lwv n o5 o6)) (st' := [vI (nI n + 1), vX, vR 0]) rfl ?_
  refine h_sld (j := n + 1) (nI_add n 1) (by omega) hX ?_
  refine h_pure 4 (k' := (kl_17.drop 10 ++ K_18)) (lv' := (lwv n o5 o6)) (st' := [vI (nI n + 2), vX, vI (X.2 (n + 1)), vR 0]) rfl ?_
  refine h_sld (j := n + 2) (nI_add n 2) (by omega) hX ?_
  refine h_pure 1 (k' := (kl_17.drop 12 ++ K_18)) (lv' := (lwv n o5 o6)) (st' := [vR 900, vI (X.2 (n + 2)), vI (X.2 (n + 1)), vR 0]) rfl ?_
  refine h_calS (args := [vR 0, vI (X.2 (n + 1)), vI (X.2 (n + 2)), vR 900]) (rest := []) rfl rfl (by decide) hw (fun r hr => ?_)
  obtain ⟨p', s, h1, hr⟩ := hr
  obtain ⟨kd, sd, hk1, hk2, e⟩ : ∃ kd sd, kd ≤ 1 ∧ sd ≤ 6 ∧ r = ((gE p', s), .inl (some (vI (nI cv.1))), kd, sd) := by
    rcases hr with ⟨c0, -, -, e⟩ | ⟨c0, -, e⟩
    · exact ⟨0, 0, Nat.zero_le _, Nat.zero_le _, by rw [e, c0]; rfl⟩
    · exact ⟨1, 6, Nat.le_refl _, Nat.le_refl _, e⟩
  have hRC : RC (if cv.1 = 0 then As else Af) p' s := by
    rcases hr with ⟨c0, h, -, -⟩ | ⟨c0, h, -⟩
    · rw [if_pos c0]; exact h
    · rw [if_neg c0]; exact h
  have h9 : cv.1 = 0 → s 900 0 = id cv.2 := by
    intro c0
    rcases hr with ⟨-, -, h, -⟩ | ⟨c1, -, -⟩
    · exact h
    · exact absurd c0 c1
  subst e
  show hL X 41 k_352 [] (kl_17.drop 13 ++ K_18) (lwv n o5 o6) [vI (nI cv.1)] p' s (kc + kd) (ks + sd) Q
  refine h_pure 2 (k' := (kl_17.drop 15 ++ K_18)) (lv' := (lwv n (some (vI (nI cv.1))) o6)) (st' := [vR 800]) rfl ?_
  refine h_pure 4 (k' := (kl_17.drop 19 ++ K_18)) (lv' := (lwv n (some (vI (nI cv.1))) o6)) (st' := [vI (nI n + 1), vX, vR 800]) rfl ?_
  refine h_sld (j := n + 1) (nI_add n 1) (by omega) hX ?_
  refine h_pure 4 (k' := (kl_17.drop 24 ++ K_18)) (lv' := (lwv n (some (vI (nI cv.1))) o6)) (st' := [vI (nI n + 2), vX, vI (X.2 (n + 1)), vR 800]) rfl ?_
  refine h_sld (j := n + 2) (nI_add n 2) (by omega) hX ?_
  refine h_calV (args := [vR 800, vI (X.2 (n + 1)), vI (X.2 (n + 2))]) (rest := []) rfl rfl (by decide) (hm p' s h1 hRC) (fun r hr => ?_)
  obtain ⟨s2, v, A2, g1, g2, g3, rfl, gI, gC, gM⟩ := hr
  show hL X 41 k_352 [] (kl_17.drop 26 ++ K_18) (lwv n (some (vI (nI cv.1))) o6) [vI v] p' s2 (kc + kd) (ks + sd) Q
  refine h_pure 2 (k' := (kl_17.drop 28 ++ K_18)) (lv' := (lwv n (some (vI (nI cv.1))) (some (vI v)))) (st' := [vR 800]) rfl ?_
  refine h_calV (args := [vR 800]) (rest := []) rfl rfl (by decide) (s_178 (d := 40)) (fun r hr => ?_)
  subst hr
  rw [g2]
  show hL X 41 k_352 [] (kl_17.drop 29 ++ K_18) (lwv n (some (vI (nI cv.1))) (some (vI v))) [vI (nI cv.1)] p' s2 (kc + kd) (ks + sd) Q
  refine h_pure 1 (k' := (kl_17.drop 30 ++ K_18)) (lv' := (lwv n (some (vI (nI cv.1))) (some (vI v)))) (st' := [vI (nI cv.1), vI (nI cv.1)]) rfl ?_
  refine h_if2 (k' := (kl_17.drop 33 ++ K_18)) (P := True) ((to_17 1267 (by decide)).trans rfl) ⟨fun _ => trivial, fun _ => rfl⟩ (fun _ => ?_) (fun h => absurd trivial h)
  have nx' := nx A2 p' s2 (kc + kd) (ks + sd) (some (vI (nI cv.1))) (some (vI v)) gI gC gM (by omega) (by omega)
  refine h_pure 1 (k' := (kl_17.drop 34 ++ K_18)) (lv' := (lwv n (some (vI (nI cv.1))) (some (vI v)))) (st' := [vI (nI cv.1)]) rfl ?_
  refine h_if1 (k' := (kl_17.drop 44 ++ K_18)) (P := ¬ nI cv.1 = 0) ((to_17 1284 (by decide)).trans rfl) Iff.rfl (fun _ => (h_goto (k' := K_42) sk_42 nx')) (fun h0 => ?_)
  have c0 : cv.1 = 0 := hc0 (Classical.not_not.mp h0)
  refine h_pure 2 (k' := (kl_17.drop 37 ++ K_18)) (lv' := (lwv n (some (vI (nI cv.1))) (some (vI v)))) (st' := [vI 0, vR 900]) rfl ?_
  refine h_lald ?_
  have e3 : v = cv.2 := g3 c0
  subst e3
  rw [g1, h9 c0]
  refine h_pure 1 (k' := (kl_17.drop 39 ++ K_18)) (lv' := (lwv n (some (vI (nI cv.1))) (some (vI cv.2)))) (st' := [vI cv.2, vL (id cv.2)]) rfl ?_
  refine h_i2l (h_lcmp ?_)
  rw [show am_lcmp (id cv.2) cv.2 = 0 from am_lcmp_self _]
  exact h_if1 (k' := (kl_17.drop 44 ++ K_18)) (P := True) ((to_17 1284 (by decide)).trans rfl) ⟨fun _ => trivial, fun _ => rfl⟩ (fun _ => (h_goto (k' := K_42) sk_42 nx')) (fun h => absurd trivial h)
/-- tell -/
theorem lc_17 {X : Nat × (Nat → Int32)} {n : Nat} {p : Nat → Nat} {sg : Mg} {kc ks B2 : Nat} {o5 o6 : Option AV} {Q : am_R → Prop} (hX : X.1 < 2147483648) (hn : n + 6 ≤ X.1) {Af As : AS} {cv : Nat × Int32} (hw : gF X 41 333 [vR 0, vI (X.2 (n + 1)), vI (X.2 (n + 2)), vR 900] p sg (wR Af As cv b01 sg)) (hm : mOK X B2 260 [vI (X.2 (n + 1)), vI (X.2 (n + 2))] Af As cv sg) (hc0 : nI cv.1 = 0 → cv.1 = 0) (nx : NX X n B2 kc ks Q) : hL X 41 k_352 [] K_18 (lwv n o5 o6) [] p sg kc ks Q := by
  refine h_pure 1 (k' := (kl_18.drop 1 ++ K_19)) (lv' := (lwv n o5 o6)) (st' := [vR 0]) rfl ?_
  refine h_pure 4 (k' := (kl_18.drop 5 ++ K_19)) (lv' := (lwv n o5 o6)) (st' := [vI (nI n + 1), vX, vR 0]) rfl ?_
  refine h_sld (j := n + 1) (nI_add n 1) (by omega) hX ?_
  refine h_pure 4 (k' := (kl_18.drop 10 ++ K_19)) (lv' := (lwv n o5 o6)) (st' := [vI (nI n + 2), vX, vI (X.2 (n + 1)), vR 0]) rfl ?_
  refine h_sld (j := n + 2) (nI_add n 2) (by omega) hX ?_
  refine h_pure 1 (k' := (kl_18.drop 12 ++ K_19)) (lv' := (lwv n o5 o6)) (st' := [vR 900, vI (X.2 (n + 2)), vI (X.2 (n + 1)), vR 0]) rfl ?_
  refine h_calS (args := [vR 0, vI (X.2 (n + 1)), vI (X.2 (n + 2)), vR 900]) (rest := []) rfl rfl (by decide) hw (fun r hr => ?_)
  obtain ⟨p', s, h1, hr⟩ := hr
  obtain ⟨kd, sd, hk1, hk2, e⟩ : ∃ kd sd, kd ≤ 1 ∧ sd ≤ 6 ∧ r = ((gE p', s), .inl (some (vI (nI cv.1))), kd, sd) := by
    rcases hr with ⟨c0, -, -, e⟩ | ⟨c0, -, e⟩
    · exact ⟨0, 0, Nat.zero_le _, Nat.zero_le _, by rw [e, c0]; rfl⟩
    · exact ⟨1, 6, Nat.le_refl _, Nat.le_refl _, e⟩
  have hRC : RC (if cv.1 = 0 then As else Af) p' s := by
    rcases hr with ⟨c0, h, -, -⟩ | ⟨c0, h, -⟩
    · rw [if_pos c0]; exact h
    · rw [if_neg c0]; exact h
  have h9 : cv.1 = 0 → s 900 0 = b01 cv.2 := by
    intro c0
    rcases hr with ⟨-, -, h, -⟩ | ⟨c1, -, -⟩
    · exact h
    · exact absurd c0 c1
  subst e
  show hL X 41 k_352 [] (kl_18.drop 13 ++ K_19) (lwv n o5 o6) [vI (nI cv.1)] p' s (kc + kd) (ks + sd) Q
  refine h_pure 2 (k' := (kl_18.drop 15 ++ K_19)) (lv' := (lwv n (some (vI (nI cv.1))) o6)) (st' := [vR 800]) rfl ?_
  refine h_pure 4 (k' := (kl_18.drop 19 ++ K_19)) (lv' := (lwv n (some (vI (nI cv.1))) o6)) (st' := [vI (nI n + 1), vX, vR 800]) rfl ?_
  refine h_sld (j := n + 1) (nI_add n 1) (by omega) hX ?_
  refine h_pure 4 (k' := (kl_18.drop 24 ++ K_19)) (lv' := (lwv n (some (vI (nI cv.1))) o6)) (st' := [vI (nI n + 2), vX, vI (X.2 (n + 1)), vR 800]) rfl ?_
  refine h_sld (j := n + 2) (nI_add n 2) (by omega) hX ?_
  refine h_calV (args := [vR 800, vI (X.2 (n + 1)), vI (X.2 (n + 2))]) (rest := []) rfl rfl (by decide) (hm p' s h1 hRC) (fun r hr => ?_)
  obtain ⟨s2, v, A2, g1, g2, g3, rfl, gI, gC, gM⟩ := hr
  show hL X 41 k_352 [] (kl_18.drop 26 ++ K_19) (lwv n (some (vI (nI cv.1))) o6) [vI v] p' s2 (kc + kd) (ks + sd) Q
  refine h_pure 2 (k' := (kl_18.drop 28 ++ K_19)) (lv' := (lwv n (some (vI (nI cv.1))) (some (vI v)))) (st' := [vR 800]) rfl ?_
  refine h_calV (args := [vR 800]) (rest := []) rfl rfl (by decide) (s_178 (d := 40)) (fun r hr => ?_)
  subst hr
  rw [g2]
  show hL X 41 k_352 [] (kl_18.drop 29 ++ K_19) (lwv n (some (vI (nI cv.1))) (some (vI v))) [vI (nI cv.1)] p' s2 (kc + kd) (ks + sd) Q
  refine h_pure 1 (k' := (kl_18.drop 30 ++ K_19)) (lv' := (lwv n (some (vI (nI cv.1))) (some (vI v)))) (st' := [vI (nI cv.1), vI (nI cv.1)]) rfl ?_
  refine h_if2 (k' := (kl_18.drop 33 ++ K_19)) (P := True) ((to_18 1335 (by decide)).trans rfl) ⟨fun _ => trivial, fun _ => rfl⟩ (fun _ => ?_) (fun h => absurd trivial h)
  have nx' := nx A2 p' s2 (kc + kd) (ks + sd) (some (vI (nI cv.1))) (some (vI v)) gI gC gM (by omega) (by omega)
  refine h_pure 1 (k' := (kl_18.drop 34 ++ K_19)) (lv' := (lwv n (some (vI (nI cv.1))) (some (vI v)))) (st' := [vI (nI cv.1)]) rfl ?_
  refine h_if1 (k' := (kl_18.drop 47 ++ K_19)) (P := ¬ nI cv.1 = 0) ((to_18 1359 (by decide)).trans rfl) Iff.rfl (fun _ => (h_goto (k' := K_42) sk_42 nx')) (fun h0 => ?_)
  have c0 : cv.1 = 0 := hc0 (Classical.not_not.mp h0)
  refine h_pure 2 (k' := (kl_18.drop 37 ++ K_19)) (lv' := (lwv n (some (vI (nI cv.1))) (some (vI v)))) (st' := [vI 0, vR 900]) rfl ?_
  refine h_lald ?_
  have e3 : v = cv.2 := g3 c0
  subst e3
  rw [g1, h9 c0]
  refine h_pure 1 (k' := (kl_18.drop 39 ++ K_19)) (lv' := (lwv n (some (vI (nI cv.1))) (some (vI cv.2)))) (st' := [vI cv.2, vL (b01 cv.2)]) rfl ?_
  refine h_boolL ((to_18 1352 (by decide)).trans rfl) ((to_18 1353 (by decide)).trans rfl) (h_lcmp ?_)
  rw [show am_lcmp (b01 cv.2) (b01 cv.2) = 0 from am_lcmp_self _]
  exact h_if1 (k' := (kl_18.drop 47 ++ K_19)) (P := True) ((to_18 1359 (by decide)).trans rfl) ⟨fun _ => trivial, fun _ => rfl⟩ (fun _ => (h_goto (k' := K_42) sk_42 nx')) (fun h => absurd trivial h)
/-- dawns -/
theorem lc_18 {X : Nat × (Nat → Int32)} {n : Nat} {p : Nat → Nat} {sg : Mg} {kc ks B2 : Nat} {o5 o6 : Option AV} {Q : am_R → Prop} (hX : X.1 < 2147483648) (hn : n + 6 ≤ X.1) {Af As : AS} {cv : Nat × Int32} (hw : gF X 41 334 [vR 0, vI (X.2 (n + 1)), vR 900] p sg (wR Af As cv id sg)) (hm : mOK X B2 262 [vI (X.2 (n + 1))] Af As cv sg) (hc0 : nI cv.1 = 0 → cv.1 = 0) (nx : NX X n B2 kc ks Q) : hL X 41 k_352 [] K_19 (lwv n o5 o6) [] p sg kc ks Q := by
  refine h_pure 1 (k' := (kl_19.drop 1 ++ K_20)) (lv' := (lwv n o5 o6)) (st' := [vR 0]) rfl ?_
  refine h_pure 4 (k' := (kl_19.drop 5 ++ K_20)) (lv' := (lwv n o5 o6)) (st' := [vI (nI n + 1), vX, vR 0]) rfl ?_
  refine h_sld (j := n + 1) (nI_add n 1) (by omega) hX ?_
  refine h_pure 1 (k' := (kl_19.drop 7 ++ K_20)) (lv' := (lwv n o5 o6)) (st' := [vR 900, vI (X.2 (n + 1)), vR 0]) rfl ?_
  refine h_calS (args := [vR 0, vI (X.2 (n + 1)), vR 900]) (rest := []) rfl rfl (by decide) hw (fun r hr => ?_)
  obtain ⟨p', s, h1, hr⟩ := hr
  obtain ⟨kd, sd, hk1, hk2, e⟩ : ∃ kd sd, kd ≤ 1 ∧ sd ≤ 6 ∧ r = ((gE p', s), .inl (some (vI (nI cv.1))), kd, sd) := by
    rcases hr with ⟨c0, -, -, e⟩ | ⟨c0, -, e⟩
    · exact ⟨0, 0, Nat.zero_le _, Nat.zero_le _, by rw [e, c0]; rfl⟩
    · exact ⟨1, 6, Nat.le_refl _, Nat.le_refl _, e⟩
  have hRC : RC (if cv.1 = 0 then As else Af) p' s := by
    rcases hr with ⟨c0, h, -, -⟩ | ⟨c0, h, -⟩
    · rw [if_pos c0]; exact h
    · rw [if_neg c0]; exact h
  have h9 : cv.1 = 0 → s 900 0 = id cv.2 := by
    intro c0
    rcases hr with ⟨-, -, h, -⟩ | ⟨c1, -, -⟩
    · exact h
    · exact absurd c0 c1
  subst e
  show hL X 41 k_352 [] (kl_19.drop 8 ++ K_20) (lwv n o5 o6) [vI (nI cv.1)] p' s (kc + kd) (ks + sd) Q
  refine h_pure 2 (k' := (kl_19.drop 10 ++ K_20)) (lv' := (lwv n (some (vI (nI cv.1))) o6)) (st' := [vR 800]) rfl ?_
  refine h_pure 4 (k' := (kl_19.drop 14 ++ K_20)) (lv' := (lwv n (some (vI (nI cv.1))) o6)) (st' := [vI (nI n + 1), vX, vR 800]) rfl ?_
  refine h_sld (j := n + 1) (nI_add n 1) (by omega) hX ?_
  refine h_calV (args := [vR 800, vI (X.2 (n + 1))]) (rest := []) rfl rfl (by decide) (hm p' s h1 hRC) (fun r hr => ?_)
  obtain ⟨s2, v, A2, g1, g2, g3, rfl, gI, gC, gM⟩ := hr
  show hL X 41 k_352 [] (kl_19.drop 16 ++ K_20) (lwv n (some (vI (nI cv.1))) o6) [vI v] p' s2 (kc + kd) (ks + sd) Q
  refine h_pure 2 (k' := (kl_19.drop 18 ++ K_20)) (lv' := (lwv n (some (vI (nI cv.1))) (some (vI v)))) (st' := [vR 800]) rfl ?_
  refine h_calV (args := [vR 800]) (rest := []) rfl rfl (by decide) (s_178 (d := 40)) (fun r hr => ?_)
  subst hr
  rw [g2]
  show hL X 41 k_352 [] (kl_19.drop 19 ++ K_20) (lwv n (some (vI (nI cv.1))) (some (vI v))) [vI (nI cv.1)] p' s2 (kc + kd) (ks + sd) Q
  refine h_pure 1 (k' := (kl_19.drop 20 ++ K_20)) (lv' := (lwv n (some (vI (nI cv.1))) (some (vI v)))) (st' := [vI (nI cv.1), vI (nI cv.1)]) rfl ?_
  refine h_if2 (k' := (kl_19.drop 23 ++ K_20)) (P := True) ((to_19 1398 (by decide)).trans rfl) ⟨fun _ => trivial, fun _ => rfl⟩ (fun _ => ?_) (fun h => absurd trivial h)
  have nx' := nx A2 p' s2 (kc + kd) (ks + sd) (some (vI (nI cv.1))) (some (vI v)) gI gC gM (by omega) (by omega)
  refine h_pure 1 (k' := (kl_19.drop 24 ++ K_20)) (lv' := (lwv n (some (vI (nI cv.1))) (some (vI v)))) (st' := [vI (nI cv.1)]) rfl ?_
  refine h_if1 (k' := (kl_19.drop 34 ++ K_20)) (P := ¬ nI cv.1 = 0) ((to_19 1415 (by decide)).trans rfl) Iff.rfl (fun _ => (h_goto (k' := K_42) sk_42 nx')) (fun h0 => ?_)
  have c0 : cv.1 = 0 := hc0 (Classical.not_not.mp h0)
  refine h_pure 2 (k' := (kl_19.drop 27 ++ K_20)) (lv' := (lwv n (some (vI (nI cv.1))) (some (vI v)))) (st' := [vI 0, vR 900]) rfl ?_
  refine h_lald ?_
  have e3 : v = cv.2 := g3 c0
  subst e3
  rw [g1, h9 c0]
  refine h_pure 1 (k' := (kl_19.drop 29 ++ K_20)) (lv' := (lwv n (some (vI (nI cv.1))) (some (vI cv.2)))) (st' := [vI cv.2, vL (id cv.2)]) rfl ?_
  refine h_i2l (h_lcmp ?_)
  rw [show am_lcmp (id cv.2) cv.2 = 0 from am_lcmp_self _]
  exact h_if1 (k' := (kl_19.drop 34 ++ K_20)) (P := True) ((to_19 1415 (by decide)).trans rfl) ⟨fun _ => trivial, fun _ => rfl⟩ (fun _ => (h_goto (k' := K_42) sk_42 nx')) (fun h => absurd trivial h)
/-- soonest -/
theorem lc_19 {X : Nat × (Nat → Int32)} {n : Nat} {p : Nat → Nat} {sg : Mg} {kc ks B2 : Nat} {o5 o6 : Option AV} {Q : am_R → Prop} (hX : X.1 < 2147483648) (hn : n + 6 ≤ X.1) {Af As : AS} {cv : Nat × Int32} (hw : gF X 41 335 [vR 0, vI (X.2 (n + 1)), vI (X.2 (n + 2)), vI (X.2 (n + 3)), vR 900] p sg (wR Af As cv id sg)) (hm : mOK X B2 271 [vI (X.2 (n + 1)), vI (X.2 (n + 2)), vI (X.2 (n + 3))] Af As cv sg) (hc0 : nI cv.1 = 0 → cv.1 = 0) (nx : NX X n B2 kc ks Q) : hL X 41 k_352 [] K_20 (lwv n o5 o6) [] p sg kc ks Q := by
  refine h_pure 1 (k' := (kl_20.drop 1 ++ K_21)) (lv' := (lwv n o5 o6)) (st' := [vR 0]) rfl ?_
  refine h_pure 4 (k' := (kl_20.drop 5 ++ K_21)) (lv' := (lwv n o5 o6)) (st' := [vI (nI n + 1), vX, vR 0]) rfl ?_
  refine h_sld (j := n + 1) (nI_add n 1) (by omega) hX ?_
  refine h_pure 4 (k' := (kl_20.drop 10 ++ K_21)) (lv' := (lwv n o5 o6)) (st' := [vI (nI n + 2), vX, vI (X.2 (n + 1)), vR 0]) rfl ?_
  refine h_sld (j := n + 2) (nI_add n 2) (by omega) hX ?_
  refine h_pure 4 (k' := (kl_20.drop 15 ++ K_21)) (lv' := (lwv n o5 o6)) (st' := [vI (nI n + 3), vX, vI (X.2 (n + 2)), vI (X.2 (n + 1)), vR 0]) rfl ?_
  refine h_sld (j := n + 3) (nI_add n 3) (by omega) hX ?_
  refine h_pure 1 (k' := (kl_20.drop 17 ++ K_21)) (lv' := (lwv n o5 o6)) (st' := [vR 900, vI (X.2 (n + 3)), vI (X.2 (n + 2)), vI (X.2 (n + 1)), vR 0]) rfl ?_
  refine h_calS (args := [vR 0, vI (X.2 (n + 1)), vI (X.2 (n + 2)), vI (X.2 (n + 3)), vR 900]) (rest := []) rfl rfl (by decide) hw (fun r hr => ?_)
  obtain ⟨p', s, h1, hr⟩ := hr
  obtain ⟨kd, sd, hk1, hk2, e⟩ : ∃ kd sd, kd ≤ 1 ∧ sd ≤ 6 ∧ r = ((gE p', s), .inl (some (vI (nI cv.1))), kd, sd) := by
    rcases hr with ⟨c0, -, -, e⟩ | ⟨c0, -, e⟩
    · exact ⟨0, 0, Nat.zero_le _, Nat.zero_le _, by rw [e, c0]; rfl⟩
    · exact ⟨1, 6, Nat.le_refl _, Nat.le_refl _, e⟩
  have hRC : RC (if cv.1 = 0 then As else Af) p' s := by
    rcases hr with ⟨c0, h, -, -⟩ | ⟨c0, h, -⟩
    · rw [if_pos c0]; exact h
    · rw [if_neg c0]; exact h
  have h9 : cv.1 = 0 → s 900 0 = id cv.2 := by
    intro c0
    rcases hr with ⟨-, -, h, -⟩ | ⟨c1, -, -⟩
    · exact h
    · exact absurd c0 c1
  subst e
  show hL X 41 k_352 [] (kl_20.drop 18 ++ K_21) (lwv n o5 o6) [vI (nI cv.1)] p' s (kc + kd) (ks + sd) Q
  refine h_pure 2 (k' := (kl_20.drop 20 ++ K_21)) (lv' := (lwv n (some (vI (nI cv.1))) o6)) (st' := [vR 800]) rfl ?_
  refine h_pure 4 (k' := (kl_20.drop 24 ++ K_21)) (lv' := (lwv n (some (vI (nI cv.1))) o6)) (st' := [vI (nI n + 1), vX, vR 800]) rfl ?_
  refine h_sld (j := n + 1) (nI_add n 1) (by omega) hX ?_
  refine h_pure 4 (k' := (kl_20.drop 29 ++ K_21)) (lv' := (lwv n (some (vI (nI cv.1))) o6)) (st' := [vI (nI n + 2), vX, vI (X.2 (n + 1)), vR 800]) rfl ?_
  refine h_sld (j := n + 2) (nI_add n 2) (by omega) hX ?_
  refine h_pure 4 (k' := (kl_20.drop 34 ++ K_21)) (lv' := (lwv n (some (vI (nI cv.1))) o6)) (st' := [vI (nI n + 3), vX, vI (X.2 (n + 2)), vI (X.2 (n + 1)), vR 800]) rfl ?_
  refine h_sld (j := n + 3) (nI_add n 3) (by omega) hX ?_
  refine h_calV (args := [vR 800, vI (X.2 (n + 1)), vI (X.2 (n + 2)), vI (X.2 (n + 3))]) (rest := []) rfl rfl (by decide) (hm p' s h1 hRC) (fun r hr => ?_)
  obtain ⟨s2, v, A2, g1, g2, g3, rfl, gI, gC, gM⟩ := hr
  show hL X 41 k_352 [] (kl_20.drop 36 ++ K_21) (lwv n (some (vI (nI cv.1))) o6) [vI v] p' s2 (kc + kd) (ks + sd) Q
  refine h_pure 2 (k' := (kl_20.drop 38 ++ K_21)) (lv' := (lwv n (some (vI (nI cv.1))) (some (vI v)))) (st' := [vR 800]) rfl ?_
  refine h_calV (args := [vR 800]) (rest := []) rfl rfl (by decide) (s_178 (d := 40)) (fun r hr => ?_)
  subst hr
  rw [g2]
  show hL X 41 k_352 [] (kl_20.drop 39 ++ K_21) (lwv n (some (vI (nI cv.1))) (some (vI v))) [vI (nI cv.1)] p' s2 (kc + kd) (ks + sd) Q
  refine h_pure 1 (k' := (kl_20.drop 40 ++ K_21)) (lv' := (lwv n (some (vI (nI cv.1))) (some (vI v)))) (st' := [vI (nI cv.1), vI (nI cv.1)]) rfl ?_
  refine h_if2 (k' := (kl_20.drop 43 ++ K_21)) (P := True) ((to_20 1478 (by decide)).trans rfl) ⟨fun _ => trivial, fun _ => rfl⟩ (fun _ => ?_) (fun h => absurd trivial h)
  have nx' := nx A2 p' s2 (kc + kd) (ks + sd) (some (vI (nI cv.1))) (some (vI v)) gI gC gM (by omega) (by omega)
  refine h_pure 1 (k' := (kl_20.drop 44 ++ K_21)) (lv' := (lwv n (some (vI (nI cv.1))) (some (vI v)))) (st' := [vI (nI cv.1)]) rfl ?_
  refine h_if1 (k' := (kl_20.drop 54 ++ K_21)) (P := ¬ nI cv.1 = 0) ((to_20 1495 (by decide)).trans rfl) Iff.rfl (fun _ => (h_goto (k' := K_42) sk_42 nx')) (fun h0 => ?_)
  have c0 : cv.1 = 0 := hc0 (Classical.not_not.mp h0)
  refine h_pure 2 (k' := (kl_20.drop 47 ++ K_21)) (lv' := (lwv n (some (vI (nI cv.1))) (some (vI v)))) (st' := [vI 0, vR 900]) rfl ?_
  refine h_lald ?_
  have e3 : v = cv.2 := g3 c0
  subst e3
  rw [g1, h9 c0]
  refine h_pure 1 (k' := (kl_20.drop 49 ++ K_21)) (lv' := (lwv n (some (vI (nI cv.1))) (some (vI cv.2)))) (st' := [vI cv.2, vL (id cv.2)]) rfl ?_
  refine h_i2l (h_lcmp ?_)
  rw [show am_lcmp (id cv.2) cv.2 = 0 from am_lcmp_self _]
  exact h_if1 (k' := (kl_20.drop 54 ++ K_21)) (P := True) ((to_20 1495 (by decide)).trans rfl) ⟨fun _ => trivial, fun _ => rfl⟩ (fun _ => (h_goto (k' := K_42) sk_42 nx')) (fun h => absurd trivial h)
/-- first -/
theorem lc_20 {X : Nat × (Nat → Int32)} {n : Nat} {p : Nat → Nat} {sg : Mg} {kc ks B2 : Nat} {o5 o6 : Option AV} {Q : am_R → Prop} (hX : X.1 < 2147483648) (hn : n + 6 ≤ X.1) {Af As : AS} {cv : Nat × Int32} (hw : gF X 41 336 [vR 0, vI (X.2 (n + 1)), vI (X.2 (n + 2)), vI (X.2 (n + 3)), vR 900] p sg (wR Af As cv id sg)) (hm : mOK X B2 279 [vI (X.2 (n + 1)), vI (X.2 (n + 2)), vI (X.2 (n + 3))] Af As cv sg) (hc0 : nI cv.1 = 0 → cv.1 = 0) (nx : NX X n B2 kc ks Q) : hL X 41 k_352 [] K_21 (lwv n o5 o6) [] p sg kc ks Q := by
  refine h_pure 1 (k' := (kl_21.drop 1 ++ K_22)) (lv' := (lwv n o5 o6)) (st' := [vR 0]) rfl ?_
  refine h_pure 4 (k' := (kl_21.drop 5 ++ K_22)) (lv' := (lwv n o5 o6)) (st' := [vI (nI n + 1), vX, vR 0]) rfl ?_
  refine h_sld (j := n + 1) (nI_add n 1) (by omega) hX ?_
  refine h_pure 4 (k' := (kl_21.drop 10 ++ K_22)) (lv' := (lwv n o5 o6)) (st' := [vI (nI n + 2), vX, vI (X.2 (n + 1)), vR 0]) rfl ?_
  refine h_sld (j := n + 2) (nI_add n 2) (by omega) hX ?_
  refine h_pure 4 (k' := (kl_21.drop 15 ++ K_22)) (lv' := (lwv n o5 o6)) (st' := [vI (nI n + 3), vX, vI (X.2 (n + 2)), vI (X.2 (n + 1)), vR 0]) rfl ?_
  refine h_sld (j := n + 3) (nI_add n 3) (by omega) hX ?_
  refine h_pure 1 (k' := (kl_21.drop 17 ++ K_22)) (lv' := (lwv n o5 o6)) (st' := [vR 900, vI (X.2 (n + 3)), vI (X.2 (n + 2)), vI (X.2 (n + 1)), vR 0]) rfl ?_
  refine h_calS (args := [vR 0, vI (X.2 (n + 1)), vI (X.2 (n + 2)), vI (X.2 (n + 3)), vR 900]) (rest := []) rfl rfl (by decide) hw (fun r hr => ?_)
  obtain ⟨p', s, h1, hr⟩ := hr
  obtain ⟨kd, sd, hk1, hk2, e⟩ : ∃ kd sd, kd ≤ 1 ∧ sd ≤ 6 ∧ r = ((gE p', s), .inl (some (vI (nI cv.1))), kd, sd) := by
    rcases hr with ⟨c0, -, -, e⟩ | ⟨c0, -, e⟩
    · exact ⟨0, 0, Nat.zero_le _, Nat.zero_le _, by rw [e, c0]; rfl⟩
    · exact ⟨1, 6, Nat.le_refl _, Nat.le_refl _, e⟩
  have hRC : RC (if cv.1 = 0 then As else Af) p' s := by
    rcases hr with ⟨c0, h, -, -⟩ | ⟨c0, h, -⟩
    · rw [if_pos c0]; exact h
    · rw [if_neg c0]; exact h
  have h9 : cv.1 = 0 → s 900 0 = id cv.2 := by
    intro c0
    rcases hr with ⟨-, -, h, -⟩ | ⟨c1, -, -⟩
    · exact h
    · exact absurd c0 c1
  subst e
  show hL X 41 k_352 [] (kl_21.drop 18 ++ K_22) (lwv n o5 o6) [vI (nI cv.1)] p' s (kc + kd) (ks + sd) Q
  refine h_pure 2 (k' := (kl_21.drop 20 ++ K_22)) (lv' := (lwv n (some (vI (nI cv.1))) o6)) (st' := [vR 800]) rfl ?_
  refine h_pure 4 (k' := (kl_21.drop 24 ++ K_22)) (lv' := (lwv n (some (vI (nI cv.1))) o6)) (st' := [vI (nI n + 1), vX, vR 800]) rfl ?_
  refine h_sld (j := n + 1) (nI_add n 1) (by omega) hX ?_
  refine h_pure 4 (k' := (kl_21.drop 29 ++ K_22)) (lv' := (lwv n (some (vI (nI cv.1))) o6)) (st' := [vI (nI n + 2), vX, vI (X.2 (n + 1)), vR 800]) rfl ?_
  refine h_sld (j := n + 2) (nI_add n 2) (by omega) hX ?_
  refine h_pure 4 (k' := (kl_21.drop 34 ++ K_22)) (lv' := (lwv n (some (vI (nI cv.1))) o6)) (st' := [vI (nI n + 3), vX, vI (X.2 (n + 2)), vI (X.2 (n + 1)), vR 800]) rfl ?_
  refine h_sld (j := n + 3) (nI_add n 3) (by omega) hX ?_
  refine h_calV (args := [vR 800, vI (X.2 (n + 1)), vI (X.2 (n + 2)), vI (X.2 (n + 3))]) (rest := []) rfl rfl (by decide) (hm p' s h1 hRC) (fun r hr => ?_)
  obtain ⟨s2, v, A2, g1, g2, g3, rfl, gI, gC, gM⟩ := hr
  show hL X 41 k_352 [] (kl_21.drop 36 ++ K_22) (lwv n (some (vI (nI cv.1))) o6) [vI v] p' s2 (kc + kd) (ks + sd) Q
  refine h_pure 2 (k' := (kl_21.drop 38 ++ K_22)) (lv' := (lwv n (some (vI (nI cv.1))) (some (vI v)))) (st' := [vR 800]) rfl ?_
  refine h_calV (args := [vR 800]) (rest := []) rfl rfl (by decide) (s_178 (d := 40)) (fun r hr => ?_)
  subst hr
  rw [g2]
  show hL X 41 k_352 [] (kl_21.drop 39 ++ K_22) (lwv n (some (vI (nI cv.1))) (some (vI v))) [vI (nI cv.1)] p' s2 (kc + kd) (ks + sd) Q
  refine h_pure 1 (k' := (kl_21.drop 40 ++ K_22)) (lv' := (lwv n (some (vI (nI cv.1))) (some (vI v)))) (st' := [vI (nI cv.1), vI (nI cv.1)]) rfl ?_
  refine h_if2 (k' := (kl_21.drop 43 ++ K_22)) (P := True) ((to_21 1558 (by decide)).trans rfl) ⟨fun _ => trivial, fun _ => rfl⟩ (fun _ => ?_) (fun h => absurd trivial h)
  have nx' := nx A2 p' s2 (kc + kd) (ks + sd) (some (vI (nI cv.1))) (some (vI v)) gI gC gM (by omega) (by omega)
  refine h_pure 1 (k' := (kl_21.drop 44 ++ K_22)) (lv' := (lwv n (some (vI (nI cv.1))) (some (vI v)))) (st' := [vI (nI cv.1)]) rfl ?_
  refine h_if1 (k' := (kl_21.drop 54 ++ K_22)) (P := ¬ nI cv.1 = 0) ((to_21 1575 (by decide)).trans rfl) Iff.rfl (fun _ => (h_goto (k' := K_42) sk_42 nx')) (fun h0 => ?_)
  have c0 : cv.1 = 0 := hc0 (Classical.not_not.mp h0)
  refine h_pure 2 (k' := (kl_21.drop 47 ++ K_22)) (lv' := (lwv n (some (vI (nI cv.1))) (some (vI v)))) (st' := [vI 0, vR 900]) rfl ?_
  refine h_lald ?_
  have e3 : v = cv.2 := g3 c0
  subst e3
  rw [g1, h9 c0]
  refine h_pure 1 (k' := (kl_21.drop 49 ++ K_22)) (lv' := (lwv n (some (vI (nI cv.1))) (some (vI cv.2)))) (st' := [vI cv.2, vL (id cv.2)]) rfl ?_
  refine h_i2l (h_lcmp ?_)
  rw [show am_lcmp (id cv.2) cv.2 = 0 from am_lcmp_self _]
  exact h_if1 (k' := (kl_21.drop 54 ++ K_22)) (P := True) ((to_21 1575 (by decide)).trans rfl) ⟨fun _ => trivial, fun _ => rfl⟩ (fun _ => (h_goto (k' := K_42) sk_42 nx')) (fun h => absurd trivial h)
/-- meeting -/
theorem lc_21 {X : Nat × (Nat → Int32)} {n : Nat} {p : Nat → Nat} {sg : Mg} {kc ks B2 : Nat} {o5 o6 : Option AV} {Q : am_R → Prop} (hX : X.1 < 2147483648) (hn : n + 6 ≤ X.1) {Af As : AS} {cv : Nat × Int32} (hw : gF X 41 337 [vR 0, vI (X.2 (n + 1)), vI (X.2 (n + 2)), vI (if X.2 (n + 3) ≠ 0 then 1 else 0), vR 900] p sg (wR Af As cv id sg)) (hm : mOK X B2 282 [vI (X.2 (n + 1)), vI (X.2 (n + 2)), vI (if X.2 (n + 3) ≠ 0 then 1 else 0)] Af As cv sg) (hc0 : nI cv.1 = 0 → cv.1 = 0) (nx : NX X n B2 kc ks Q) : hL X 41 k_352 [] K_22 (lwv n o5 o6) [] p sg kc ks Q := by
  refine h_pure 1 (k' := (kl_22.drop 1 ++ K_23)) (lv' := (lwv n o5 o6)) (st' := [vR 0]) rfl ?_
  refine h_pure 4 (k' := (kl_22.drop 5 ++ K_23)) (lv' := (lwv n o5 o6)) (st' := [vI (nI n + 1), vX, vR 0]) rfl ?_
  refine h_sld (j := n + 1) (nI_add n 1) (by omega) hX ?_
  refine h_pure 4 (k' := (kl_22.drop 10 ++ K_23)) (lv' := (lwv n o5 o6)) (st' := [vI (nI n + 2), vX, vI (X.2 (n + 1)), vR 0]) rfl ?_
  refine h_sld (j := n + 2) (nI_add n 2) (by omega) hX ?_
  refine h_pure 4 (k' := (kl_22.drop 15 ++ K_23)) (lv' := (lwv n o5 o6)) (st' := [vI (nI n + 3), vX, vI (X.2 (n + 2)), vI (X.2 (n + 1)), vR 0]) rfl ?_
  refine h_sld (j := n + 3) (nI_add n 3) (by omega) hX ?_
  refine h_bool ((to_22 1604 (by decide)).trans rfl) ((to_22 1605 (by decide)).trans rfl) ?_
  refine h_pure 1 (k' := (kl_22.drop 21 ++ K_23)) (lv' := (lwv n o5 o6)) (st' := [vR 900, vI (if X.2 (n + 3) ≠ 0 then 1 else 0), vI (X.2 (n + 2)), vI (X.2 (n + 1)), vR 0]) rfl ?_
  refine h_calS (args := [vR 0, vI (X.2 (n + 1)), vI (X.2 (n + 2)), vI (if X.2 (n + 3) ≠ 0 then 1 else 0), vR 900]) (rest := []) rfl rfl (by decide) hw (fun r hr => ?_)
  obtain ⟨p', s, h1, hr⟩ := hr
  obtain ⟨kd, sd, hk1, hk2, e⟩ : ∃ kd sd, kd ≤ 1 ∧ sd ≤ 6 ∧ r = ((gE p', s), .inl (some (vI (nI cv.1))), kd, sd) := by
    rcases hr with ⟨c0, -, -, e⟩ | ⟨c0, -, e⟩
    · exact ⟨0, 0, Nat.zero_le _, Nat.zero_le _, by rw [e, c0]; rfl⟩
    · exact ⟨1, 6, Nat.le_refl _, Nat.le_refl _, e⟩
  have hRC : RC (if cv.1 = 0 then As else Af) p' s := by
    rcases hr with ⟨c0, h, -, -⟩ | ⟨c0, h, -⟩
    · rw [if_pos c0]; exact h
    · rw [if_neg c0]; exact h
  have h9 : cv.1 = 0 → s 900 0 = id cv.2 := by
    intro c0
    rcases hr with ⟨-, -, h, -⟩ | ⟨c1, -, -⟩
    · exact h
    · exact absurd c0 c1
  subst e
  show hL X 41 k_352 [] (kl_22.drop 22 ++ K_23) (lwv n o5 o6) [vI (nI cv.1)] p' s (kc + kd) (ks + sd) Q
  refine h_pure 2 (k' := (kl_22.drop 24 ++ K_23)) (lv' := (lwv n (some (vI (nI cv.1))) o6)) (st' := [vR 800]) rfl ?_
  refine h_pure 4 (k' := (kl_22.drop 28 ++ K_23)) (lv' := (lwv n (some (vI (nI cv.1))) o6)) (st' := [vI (nI n + 1), vX, vR 800]) rfl ?_
  refine h_sld (j := n + 1) (nI_add n 1) (by omega) hX ?_
  refine h_pure 4 (k' := (kl_22.drop 33 ++ K_23)) (lv' := (lwv n (some (vI (nI cv.1))) o6)) (st' := [vI (nI n + 2), vX, vI (X.2 (n + 1)), vR 800]) rfl ?_
  refine h_sld (j := n + 2) (nI_add n 2) (by omega) hX ?_
  refine h_pure 4 (k' := (kl_22.drop 38 ++ K_23)) (lv' := (lwv n (some (vI (nI cv.1))) o6)) (st' := [vI (nI n + 3), vX, vI (X.2 (n + 2)), vI (X.2 (n + 1)), vR 800]) rfl ?_
  refine h_sld (j := n + 3) (nI_add n 3) (by omega) hX ?_
  refine h_bool ((to_22 1637 (by decide)).trans rfl) ((to_22 1638 (by decide)).trans rfl) ?_
  refine h_calV (args := [vR 800, vI (X.2 (n + 1)), vI (X.2 (n + 2)), vI (if X.2 (n + 3) ≠ 0 then 1 else 0)]) (rest := []) rfl rfl (by decide) (hm p' s h1 hRC) (fun r hr => ?_)
  obtain ⟨s2, v, A2, g1, g2, g3, rfl, gI, gC, gM⟩ := hr
  show hL X 41 k_352 [] (kl_22.drop 44 ++ K_23) (lwv n (some (vI (nI cv.1))) o6) [vI v] p' s2 (kc + kd) (ks + sd) Q
  refine h_pure 2 (k' := (kl_22.drop 46 ++ K_23)) (lv' := (lwv n (some (vI (nI cv.1))) (some (vI v)))) (st' := [vR 800]) rfl ?_
  refine h_calV (args := [vR 800]) (rest := []) rfl rfl (by decide) (s_178 (d := 40)) (fun r hr => ?_)
  subst hr
  rw [g2]
  show hL X 41 k_352 [] (kl_22.drop 47 ++ K_23) (lwv n (some (vI (nI cv.1))) (some (vI v))) [vI (nI cv.1)] p' s2 (kc + kd) (ks + sd) Q
  refine h_pure 1 (k' := (kl_22.drop 48 ++ K_23)) (lv' := (lwv n (some (vI (nI cv.1))) (some (vI v)))) (st' := [vI (nI cv.1), vI (nI cv.1)]) rfl ?_
  refine h_if2 (k' := (kl_22.drop 51 ++ K_23)) (P := True) ((to_22 1654 (by decide)).trans rfl) ⟨fun _ => trivial, fun _ => rfl⟩ (fun _ => ?_) (fun h => absurd trivial h)
  have nx' := nx A2 p' s2 (kc + kd) (ks + sd) (some (vI (nI cv.1))) (some (vI v)) gI gC gM (by omega) (by omega)
  refine h_pure 1 (k' := (kl_22.drop 52 ++ K_23)) (lv' := (lwv n (some (vI (nI cv.1))) (some (vI v)))) (st' := [vI (nI cv.1)]) rfl ?_
  refine h_if1 (k' := (kl_22.drop 62 ++ K_23)) (P := ¬ nI cv.1 = 0) ((to_22 1671 (by decide)).trans rfl) Iff.rfl (fun _ => (h_goto (k' := K_42) sk_42 nx')) (fun h0 => ?_)
  have c0 : cv.1 = 0 := hc0 (Classical.not_not.mp h0)
  refine h_pure 2 (k' := (kl_22.drop 55 ++ K_23)) (lv' := (lwv n (some (vI (nI cv.1))) (some (vI v)))) (st' := [vI 0, vR 900]) rfl ?_
  refine h_lald ?_
  have e3 : v = cv.2 := g3 c0
  subst e3
  rw [g1, h9 c0]
  refine h_pure 1 (k' := (kl_22.drop 57 ++ K_23)) (lv' := (lwv n (some (vI (nI cv.1))) (some (vI cv.2)))) (st' := [vI cv.2, vL (id cv.2)]) rfl ?_
  refine h_i2l (h_lcmp ?_)
  rw [show am_lcmp (id cv.2) cv.2 = 0 from am_lcmp_self _]
  exact h_if1 (k' := (kl_22.drop 62 ++ K_23)) (P := True) ((to_22 1671 (by decide)).trans rfl) ⟨fun _ => trivial, fun _ => rfl⟩ (fun _ => (h_goto (k' := K_42) sk_42 nx')) (fun h => absurd trivial h)
/-- cone -/
theorem lc_22 {X : Nat × (Nat → Int32)} {n : Nat} {p : Nat → Nat} {sg : Mg} {kc ks B2 : Nat} {o5 o6 : Option AV} {Q : am_R → Prop} (hX : X.1 < 2147483648) (hn : n + 6 ≤ X.1) {Af As : AS} {cv : Nat × Int32} (hw : gF X 41 338 [vR 0, vI (X.2 (n + 1)), vI (X.2 (n + 2)), vR 900] p sg (wR Af As cv id sg)) (hm : mOK X B2 283 [vI (X.2 (n + 1)), vI (X.2 (n + 2))] Af As cv sg) (hc0 : nI cv.1 = 0 → cv.1 = 0) (nx : NX X n B2 kc ks Q) : hL X 41 k_352 [] K_23 (lwv n o5 o6) [] p sg kc ks Q := by
  refine h_pure 1 (k' := (kl_23.drop 1 ++ K_24)) (lv' := (lwv n o5 o6)) (st' := [vR 0]) rfl ?_
  refine h_pure 4 (k' := (kl_23.drop 5 ++ K_24)) (lv' := (lwv n o5 o6)) (st' := [vI (nI n + 1), vX, vR 0]) rfl ?_
  refine h_sld (j := n + 1) (nI_add n 1) (by omega) hX ?_
  refine h_pure 4 (k' := (kl_23.drop 10 ++ K_24)) (lv' := (lwv n o5 o6)) (st' := [vI (nI n + 2), vX, vI (X.2 (n + 1)), vR 0]) rfl ?_
  refine h_sld (j := n + 2) (nI_add n 2) (by omega) hX ?_
  refine h_pure 1 (k' := (kl_23.drop 12 ++ K_24)) (lv' := (lwv n o5 o6)) (st' := [vR 900, vI (X.2 (n + 2)), vI (X.2 (n + 1)), vR 0]) rfl ?_
  refine h_calS (args := [vR 0, vI (X.2 (n + 1)), vI (X.2 (n + 2)), vR 900]) (rest := []) rfl rfl (by decide) hw (fun r hr => ?_)
  obtain ⟨p', s, h1, hr⟩ := hr
  obtain ⟨kd, sd, hk1, hk2, e⟩ : ∃ kd sd, kd ≤ 1 ∧ sd ≤ 6 ∧ r = ((gE p', s), .inl (some (vI (nI cv.1))), kd, sd) := by
    rcases hr with ⟨c0, -, -, e⟩ | ⟨c0, -, e⟩
    · exact ⟨0, 0, Nat.zero_le _, Nat.zero_le _, by rw [e, c0]; rfl⟩
    · exact ⟨1, 6, Nat.le_refl _, Nat.le_refl _, e⟩
  have hRC : RC (if cv.1 = 0 then As else Af) p' s := by
    rcases hr with ⟨c0, h, -, -⟩ | ⟨c0, h, -⟩
    · rw [if_pos c0]; exact h
    · rw [if_neg c0]; exact h
  have h9 : cv.1 = 0 → s 900 0 = id cv.2 := by
    intro c0
    rcases hr with ⟨-, -, h, -⟩ | ⟨c1, -, -⟩
    · exact h
    · exact absurd c0 c1
  subst e
  show hL X 41 k_352 [] (kl_23.drop 13 ++ K_24) (lwv n o5 o6) [vI (nI cv.1)] p' s (kc + kd) (ks + sd) Q
  refine h_pure 2 (k' := (kl_23.drop 15 ++ K_24)) (lv' := (lwv n (some (vI (nI cv.1))) o6)) (st' := [vR 800]) rfl ?_
  refine h_pure 4 (k' := (kl_23.drop 19 ++ K_24)) (lv' := (lwv n (some (vI (nI cv.1))) o6)) (st' := [vI (nI n + 1), vX, vR 800]) rfl ?_
  refine h_sld (j := n + 1) (nI_add n 1) (by omega) hX ?_
  refine h_pure 4 (k' := (kl_23.drop 24 ++ K_24)) (lv' := (lwv n (some (vI (nI cv.1))) o6)) (st' := [vI (nI n + 2), vX, vI (X.2 (n + 1)), vR 800]) rfl ?_
  refine h_sld (j := n + 2) (nI_add n 2) (by omega) hX ?_
  refine h_calV (args := [vR 800, vI (X.2 (n + 1)), vI (X.2 (n + 2))]) (rest := []) rfl rfl (by decide) (hm p' s h1 hRC) (fun r hr => ?_)
  obtain ⟨s2, v, A2, g1, g2, g3, rfl, gI, gC, gM⟩ := hr
  show hL X 41 k_352 [] (kl_23.drop 26 ++ K_24) (lwv n (some (vI (nI cv.1))) o6) [vI v] p' s2 (kc + kd) (ks + sd) Q
  refine h_pure 2 (k' := (kl_23.drop 28 ++ K_24)) (lv' := (lwv n (some (vI (nI cv.1))) (some (vI v)))) (st' := [vR 800]) rfl ?_
  refine h_calV (args := [vR 800]) (rest := []) rfl rfl (by decide) (s_178 (d := 40)) (fun r hr => ?_)
  subst hr
  rw [g2]
  show hL X 41 k_352 [] (kl_23.drop 29 ++ K_24) (lwv n (some (vI (nI cv.1))) (some (vI v))) [vI (nI cv.1)] p' s2 (kc + kd) (ks + sd) Q
  refine h_pure 1 (k' := (kl_23.drop 30 ++ K_24)) (lv' := (lwv n (some (vI (nI cv.1))) (some (vI v)))) (st' := [vI (nI cv.1), vI (nI cv.1)]) rfl ?_
  refine h_if2 (k' := (kl_23.drop 33 ++ K_24)) (P := True) ((to_23 1722 (by decide)).trans rfl) ⟨fun _ => trivial, fun _ => rfl⟩ (fun _ => ?_) (fun h => absurd trivial h)
  have nx' := nx A2 p' s2 (kc + kd) (ks + sd) (some (vI (nI cv.1))) (some (vI v)) gI gC gM (by omega) (by omega)
  refine h_pure 1 (k' := (kl_23.drop 34 ++ K_24)) (lv' := (lwv n (some (vI (nI cv.1))) (some (vI v)))) (st' := [vI (nI cv.1)]) rfl ?_
  refine h_if1 (k' := (kl_23.drop 44 ++ K_24)) (P := ¬ nI cv.1 = 0) ((to_23 1739 (by decide)).trans rfl) Iff.rfl (fun _ => (h_goto (k' := K_42) sk_42 nx')) (fun h0 => ?_)
  have c0 : cv.1 = 0 := hc0 (Classical.not_not.mp h0)
  refine h_pure 2 (k' := (kl_23.drop 37 ++ K_24)) (lv' := (lwv n (some (vI (nI cv.1))) (some (vI v)))) (st' := [vI 0, vR 900]) rfl ?_
  refine h_lald ?_
  have e3 : v = cv.2 := g3 c0
  subst e3
  rw [g1, h9 c0]
  refine h_pure 1 (k' := (kl_23.drop 39 ++ K_24)) (lv' := (lwv n (some (vI (nI cv.1))) (some (vI cv.2)))) (st' := [vI cv.2, vL (id cv.2)]) rfl ?_
  refine h_i2l (h_lcmp ?_)
  rw [show am_lcmp (id cv.2) cv.2 = 0 from am_lcmp_self _]
  exact h_if1 (k' := (kl_23.drop 44 ++ K_24)) (P := True) ((to_23 1739 (by decide)).trans rfl) ⟨fun _ => trivial, fun _ => rfl⟩ (fun _ => (h_goto (k' := K_42) sk_42 nx')) (fun h => absurd trivial h)
/-- warned -/
theorem lc_23 {X : Nat × (Nat → Int32)} {n : Nat} {p : Nat → Nat} {sg : Mg} {kc ks B2 : Nat} {o5 o6 : Option AV} {Q : am_R → Prop} (hX : X.1 < 2147483648) (hn : n + 6 ≤ X.1) {Af As : AS} {cv : Nat × Int32} (hw : gF X 41 339 [vR 0, vI (X.2 (n + 1)), vI (X.2 (n + 2)), vR 900] p sg (wR Af As cv id sg)) (hm : mOK X B2 284 [vI (X.2 (n + 1)), vI (X.2 (n + 2))] Af As cv sg) (hc0 : nI cv.1 = 0 → cv.1 = 0) (nx : NX X n B2 kc ks Q) : hL X 41 k_352 [] K_24 (lwv n o5 o6) [] p sg kc ks Q := by
  refine h_pure 1 (k' := (kl_24.drop 1 ++ K_25)) (lv' := (lwv n o5 o6)) (st' := [vR 0]) rfl ?_
  refine h_pure 4 (k' := (kl_24.drop 5 ++ K_25)) (lv' := (lwv n o5 o6)) (st' := [vI (nI n + 1), vX, vR 0]) rfl ?_
  refine h_sld (j := n + 1) (nI_add n 1) (by omega) hX ?_
  refine h_pure 4 (k' := (kl_24.drop 10 ++ K_25)) (lv' := (lwv n o5 o6)) (st' := [vI (nI n + 2), vX, vI (X.2 (n + 1)), vR 0]) rfl ?_
  refine h_sld (j := n + 2) (nI_add n 2) (by omega) hX ?_
  refine h_pure 1 (k' := (kl_24.drop 12 ++ K_25)) (lv' := (lwv n o5 o6)) (st' := [vR 900, vI (X.2 (n + 2)), vI (X.2 (n + 1)), vR 0]) rfl ?_
  refine h_calS (args := [vR 0, vI (X.2 (n + 1)), vI (X.2 (n + 2)), vR 900]) (rest := []) rfl rfl (by decide) hw (fun r hr => ?_)
  obtain ⟨p', s, h1, hr⟩ := hr
  obtain ⟨kd, sd, hk1, hk2, e⟩ : ∃ kd sd, kd ≤ 1 ∧ sd ≤ 6 ∧ r = ((gE p', s), .inl (some (vI (nI cv.1))), kd, sd) := by
    rcases hr with ⟨c0, -, -, e⟩ | ⟨c0, -, e⟩
    · exact ⟨0, 0, Nat.zero_le _, Nat.zero_le _, by rw [e, c0]; rfl⟩
    · exact ⟨1, 6, Nat.le_refl _, Nat.le_refl _, e⟩
  have hRC : RC (if cv.1 = 0 then As else Af) p' s := by
    rcases hr with ⟨c0, h, -, -⟩ | ⟨c0, h, -⟩
    · rw [if_pos c0]; exact h
    · rw [if_neg c0]; exact h
  have h9 : cv.1 = 0 → s 900 0 = id cv.2 := by
    intro c0
    rcases hr with ⟨-, -, h, -⟩ | ⟨c1, -, -⟩
    · exact h
    · exact absurd c0 c1
  subst e
  show hL X 41 k_352 [] (kl_24.drop 13 ++ K_25) (lwv n o5 o6) [vI (nI cv.1)] p' s (kc + kd) (ks + sd) Q
  refine h_pure 2 (k' := (kl_24.drop 15 ++ K_25)) (lv' := (lwv n (some (vI (nI cv.1))) o6)) (st' := [vR 800]) rfl ?_
  refine h_pure 4 (k' := (kl_24.drop 19 ++ K_25)) (lv' := (lwv n (some (vI (nI cv.1))) o6)) (st' := [vI (nI n + 1), vX, vR 800]) rfl ?_
  refine h_sld (j := n + 1) (nI_add n 1) (by omega) hX ?_
  refine h_pure 4 (k' := (kl_24.drop 24 ++ K_25)) (lv' := (lwv n (some (vI (nI cv.1))) o6)) (st' := [vI (nI n + 2), vX, vI (X.2 (n + 1)), vR 800]) rfl ?_
  refine h_sld (j := n + 2) (nI_add n 2) (by omega) hX ?_
  refine h_calV (args := [vR 800, vI (X.2 (n + 1)), vI (X.2 (n + 2))]) (rest := []) rfl rfl (by decide) (hm p' s h1 hRC) (fun r hr => ?_)
  obtain ⟨s2, v, A2, g1, g2, g3, rfl, gI, gC, gM⟩ := hr
  show hL X 41 k_352 [] (kl_24.drop 26 ++ K_25) (lwv n (some (vI (nI cv.1))) o6) [vI v] p' s2 (kc + kd) (ks + sd) Q
  refine h_pure 2 (k' := (kl_24.drop 28 ++ K_25)) (lv' := (lwv n (some (vI (nI cv.1))) (some (vI v)))) (st' := [vR 800]) rfl ?_
  refine h_calV (args := [vR 800]) (rest := []) rfl rfl (by decide) (s_178 (d := 40)) (fun r hr => ?_)
  subst hr
  rw [g2]
  show hL X 41 k_352 [] (kl_24.drop 29 ++ K_25) (lwv n (some (vI (nI cv.1))) (some (vI v))) [vI (nI cv.1)] p' s2 (kc + kd) (ks + sd) Q
  refine h_pure 1 (k' := (kl_24.drop 30 ++ K_25)) (lv' := (lwv n (some (vI (nI cv.1))) (some (vI v)))) (st' := [vI (nI cv.1), vI (nI cv.1)]) rfl ?_
  refine h_if2 (k' := (kl_24.drop 33 ++ K_25)) (P := True) ((to_24 1790 (by decide)).trans rfl) ⟨fun _ => trivial, fun _ => rfl⟩ (fun _ => ?_) (fun h => absurd trivial h)
  have nx' := nx A2 p' s2 (kc + kd) (ks + sd) (some (vI (nI cv.1))) (some (vI v)) gI gC gM (by omega) (by omega)
  refine h_pure 1 (k' := (kl_24.drop 34 ++ K_25)) (lv' := (lwv n (some (vI (nI cv.1))) (some (vI v)))) (st' := [vI (nI cv.1)]) rfl ?_
  refine h_if1 (k' := (kl_24.drop 44 ++ K_25)) (P := ¬ nI cv.1 = 0) ((to_24 1807 (by decide)).trans rfl) Iff.rfl (fun _ => (h_goto (k' := K_42) sk_42 nx')) (fun h0 => ?_)
  have c0 : cv.1 = 0 := hc0 (Classical.not_not.mp h0)
  refine h_pure 2 (k' := (kl_24.drop 37 ++ K_25)) (lv' := (lwv n (some (vI (nI cv.1))) (some (vI v)))) (st' := [vI 0, vR 900]) rfl ?_
  refine h_lald ?_
  have e3 : v = cv.2 := g3 c0
  subst e3
  rw [g1, h9 c0]
  refine h_pure 1 (k' := (kl_24.drop 39 ++ K_25)) (lv' := (lwv n (some (vI (nI cv.1))) (some (vI cv.2)))) (st' := [vI cv.2, vL (id cv.2)]) rfl ?_
  refine h_i2l (h_lcmp ?_)
  rw [show am_lcmp (id cv.2) cv.2 = 0 from am_lcmp_self _]
  exact h_if1 (k' := (kl_24.drop 44 ++ K_25)) (P := True) ((to_24 1807 (by decide)).trans rfl) ⟨fun _ => trivial, fun _ => rfl⟩ (fun _ => (h_goto (k' := K_42) sk_42 nx')) (fun h => absurd trivial h)
/-- least -/
theorem lc_24 {X : Nat × (Nat → Int32)} {n : Nat} {p : Nat → Nat} {sg : Mg} {kc ks B2 : Nat} {o5 o6 : Option AV} {Q : am_R → Prop} (hX : X.1 < 2147483648) (hn : n + 6 ≤ X.1) {Af As : AS} {cv : Nat × Int32} (hw : gF X 41 340 [vR 0, vI (X.2 (n + 1)), vR 900] p sg (wR Af As cv id sg)) (hm : mOK X B2 287 [vI (X.2 (n + 1))] Af As cv sg) (hc0 : nI cv.1 = 0 → cv.1 = 0) (nx : NX X n B2 kc ks Q) : hL X 41 k_352 [] K_25 (lwv n o5 o6) [] p sg kc ks Q := by
  refine h_pure 1 (k' := (kl_25.drop 1 ++ K_26)) (lv' := (lwv n o5 o6)) (st' := [vR 0]) rfl ?_
  refine h_pure 4 (k' := (kl_25.drop 5 ++ K_26)) (lv' := (lwv n o5 o6)) (st' := [vI (nI n + 1), vX, vR 0]) rfl ?_
  refine h_sld (j := n + 1) (nI_add n 1) (by omega) hX ?_
  refine h_pure 1 (k' := (kl_25.drop 7 ++ K_26)) (lv' := (lwv n o5 o6)) (st' := [vR 900, vI (X.2 (n + 1)), vR 0]) rfl ?_
  refine h_calS (args := [vR 0, vI (X.2 (n + 1)), vR 900]) (rest := []) rfl rfl (by decide) hw (fun r hr => ?_)
  obtain ⟨p', s, h1, hr⟩ := hr
  obtain ⟨kd, sd, hk1, hk2, e⟩ : ∃ kd sd, kd ≤ 1 ∧ sd ≤ 6 ∧ r = ((gE p', s), .inl (some (vI (nI cv.1))), kd, sd) := by
    rcases hr with ⟨c0, -, -, e⟩ | ⟨c0, -, e⟩
    · exact ⟨0, 0, Nat.zero_le _, Nat.zero_le _, by rw [e, c0]; rfl⟩
    · exact ⟨1, 6, Nat.le_refl _, Nat.le_refl _, e⟩
  have hRC : RC (if cv.1 = 0 then As else Af) p' s := by
    rcases hr with ⟨c0, h, -, -⟩ | ⟨c0, h, -⟩
    · rw [if_pos c0]; exact h
    · rw [if_neg c0]; exact h
  have h9 : cv.1 = 0 → s 900 0 = id cv.2 := by
    intro c0
    rcases hr with ⟨-, -, h, -⟩ | ⟨c1, -, -⟩
    · exact h
    · exact absurd c0 c1
  subst e
  show hL X 41 k_352 [] (kl_25.drop 8 ++ K_26) (lwv n o5 o6) [vI (nI cv.1)] p' s (kc + kd) (ks + sd) Q
  refine h_pure 2 (k' := (kl_25.drop 10 ++ K_26)) (lv' := (lwv n (some (vI (nI cv.1))) o6)) (st' := [vR 800]) rfl ?_
  refine h_pure 4 (k' := (kl_25.drop 14 ++ K_26)) (lv' := (lwv n (some (vI (nI cv.1))) o6)) (st' := [vI (nI n + 1), vX, vR 800]) rfl ?_
  refine h_sld (j := n + 1) (nI_add n 1) (by omega) hX ?_
  refine h_calV (args := [vR 800, vI (X.2 (n + 1))]) (rest := []) rfl rfl (by decide) (hm p' s h1 hRC) (fun r hr => ?_)
  obtain ⟨s2, v, A2, g1, g2, g3, rfl, gI, gC, gM⟩ := hr
  show hL X 41 k_352 [] (kl_25.drop 16 ++ K_26) (lwv n (some (vI (nI cv.1))) o6) [vI v] p' s2 (kc + kd) (ks + sd) Q
  refine h_pure 2 (k' := (kl_25.drop 18 ++ K_26)) (lv' := (lwv n (some (vI (nI cv.1))) (some (vI v)))) (st' := [vR 800]) rfl ?_
  refine h_calV (args := [vR 800]) (rest := []) rfl rfl (by decide) (s_178 (d := 40)) (fun r hr => ?_)
  subst hr
  rw [g2]
  show hL X 41 k_352 [] (kl_25.drop 19 ++ K_26) (lwv n (some (vI (nI cv.1))) (some (vI v))) [vI (nI cv.1)] p' s2 (kc + kd) (ks + sd) Q
  refine h_pure 1 (k' := (kl_25.drop 20 ++ K_26)) (lv' := (lwv n (some (vI (nI cv.1))) (some (vI v)))) (st' := [vI (nI cv.1), vI (nI cv.1)]) rfl ?_
  refine h_if2 (k' := (kl_25.drop 23 ++ K_26)) (P := True) ((to_25 1846 (by decide)).trans rfl) ⟨fun _ => trivial, fun _ => rfl⟩ (fun _ => ?_) (fun h => absurd trivial h)
  have nx' := nx A2 p' s2 (kc + kd) (ks + sd) (some (vI (nI cv.1))) (some (vI v)) gI gC gM (by omega) (by omega)
  refine h_pure 1 (k' := (kl_25.drop 24 ++ K_26)) (lv' := (lwv n (some (vI (nI cv.1))) (some (vI v)))) (st' := [vI (nI cv.1)]) rfl ?_
  refine h_if1 (k' := (kl_25.drop 34 ++ K_26)) (P := ¬ nI cv.1 = 0) ((to_25 1863 (by decide)).trans rfl) Iff.rfl (fun _ => (h_goto (k' := K_42) sk_42 nx')) (fun h0 => ?_)
  have c0 : cv.1 = 0 := hc0 (Classical.not_not.mp h0)
  refine h_pure 2 (k' := (kl_25.drop 27 ++ K_26)) (lv' := (lwv n (some (vI (nI cv.1))) (some (vI v)))) (st' := [vI 0, vR 900]) rfl ?_
  refine h_lald ?_
  have e3 : v = cv.2 := g3 c0
  subst e3
  rw [g1, h9 c0]
  refine h_pure 1 (k' := (kl_25.drop 29 ++ K_26)) (lv' := (lwv n (some (vI (nI cv.1))) (some (vI cv.2)))) (st' := [vI cv.2, vL (id cv.2)]) rfl ?_
  refine h_i2l (h_lcmp ?_)
  rw [show am_lcmp (id cv.2) cv.2 = 0 from am_lcmp_self _]
  exact h_if1 (k' := (kl_25.drop 34 ++ K_26)) (P := True) ((to_25 1863 (by decide)).trans rfl) ⟨fun _ => trivial, fun _ => rfl⟩ (fun _ => (h_goto (k' := K_42) sk_42 nx')) (fun h => absurd trivial h)
/-- knew -/
theorem lc_25 {X : Nat × (Nat → Int32)} {n : Nat} {p : Nat → Nat} {sg : Mg} {kc ks B2 : Nat} {o5 o6 : Option AV} {Q : am_R → Prop} (hX : X.1 < 2147483648) (hn : n + 6 ≤ X.1) {Af As : AS} {cv : Nat × Int32} (hw : gF X 41 341 [vR 0, vI (X.2 (n + 1)), vI (X.2 (n + 2)), vR 900] p sg (wR Af As cv id sg)) (hm : mOK X B2 288 [vI (X.2 (n + 1)), vI (X.2 (n + 2))] Af As cv sg) (hc0 : nI cv.1 = 0 → cv.1 = 0) (nx : NX X n B2 kc ks Q) : hL X 41 k_352 [] K_26 (lwv n o5 o6) [] p sg kc ks Q := by
  refine h_pure 1 (k' := (kl_26.drop 1 ++ K_27)) (lv' := (lwv n o5 o6)) (st' := [vR 0]) rfl ?_
  refine h_pure 4 (k' := (kl_26.drop 5 ++ K_27)) (lv' := (lwv n o5 o6)) (st' := [vI (nI n + 1), vX, vR 0]) rfl ?_
  refine h_sld (j := n + 1) (nI_add n 1) (by omega) hX ?_
  refine h_pure 4 (k' := (kl_26.drop 10 ++ K_27)) (lv' := (lwv n o5 o6)) (st' := [vI (nI n + 2), vX, vI (X.2 (n + 1)), vR 0]) rfl ?_
  refine h_sld (j := n + 2) (nI_add n 2) (by omega) hX ?_
  refine h_pure 1 (k' := (kl_26.drop 12 ++ K_27)) (lv' := (lwv n o5 o6)) (st' := [vR 900, vI (X.2 (n + 2)), vI (X.2 (n + 1)), vR 0]) rfl ?_
  refine h_calS (args := [vR 0, vI (X.2 (n + 1)), vI (X.2 (n + 2)), vR 900]) (rest := []) rfl rfl (by decide) hw (fun r hr => ?_)
  obtain ⟨p', s, h1, hr⟩ := hr
  obtain ⟨kd, sd, hk1, hk2, e⟩ : ∃ kd sd, kd ≤ 1 ∧ sd ≤ 6 ∧ r = ((gE p', s), .inl (some (vI (nI cv.1))), kd, sd) := by
    rcases hr with ⟨c0, -, -, e⟩ | ⟨c0, -, e⟩
    · exact ⟨0, 0, Nat.zero_le _, Nat.zero_le _, by rw [e, c0]; rfl⟩
    · exact ⟨1, 6, Nat.le_refl _, Nat.le_refl _, e⟩
  have hRC : RC (if cv.1 = 0 then As else Af) p' s := by
    rcases hr with ⟨c0, h, -, -⟩ | ⟨c0, h, -⟩
    · rw [if_pos c0]; exact h
    · rw [if_neg c0]; exact h
  have h9 : cv.1 = 0 → s 900 0 = id cv.2 := by
    intro c0
    rcases hr with ⟨-, -, h, -⟩ | ⟨c1, -, -⟩
    · exact h
    · exact absurd c0 c1
  subst e
  show hL X 41 k_352 [] (kl_26.drop 13 ++ K_27) (lwv n o5 o6) [vI (nI cv.1)] p' s (kc + kd) (ks + sd) Q
  refine h_pure 2 (k' := (kl_26.drop 15 ++ K_27)) (lv' := (lwv n (some (vI (nI cv.1))) o6)) (st' := [vR 800]) rfl ?_
  refine h_pure 4 (k' := (kl_26.drop 19 ++ K_27)) (lv' := (lwv n (some (vI (nI cv.1))) o6)) (st' := [vI (nI n + 1), vX, vR 800]) rfl ?_
  refine h_sld (j := n + 1) (nI_add n 1) (by omega) hX ?_
  refine h_pure 4 (k' := (kl_26.drop 24 ++ K_27)) (lv' := (lwv n (some (vI (nI cv.1))) o6)) (st' := [vI (nI n + 2), vX, vI (X.2 (n + 1)), vR 800]) rfl ?_
  refine h_sld (j := n + 2) (nI_add n 2) (by omega) hX ?_
  refine h_calV (args := [vR 800, vI (X.2 (n + 1)), vI (X.2 (n + 2))]) (rest := []) rfl rfl (by decide) (hm p' s h1 hRC) (fun r hr => ?_)
  obtain ⟨s2, v, A2, g1, g2, g3, rfl, gI, gC, gM⟩ := hr
  show hL X 41 k_352 [] (kl_26.drop 26 ++ K_27) (lwv n (some (vI (nI cv.1))) o6) [vI v] p' s2 (kc + kd) (ks + sd) Q
  refine h_pure 2 (k' := (kl_26.drop 28 ++ K_27)) (lv' := (lwv n (some (vI (nI cv.1))) (some (vI v)))) (st' := [vR 800]) rfl ?_
  refine h_calV (args := [vR 800]) (rest := []) rfl rfl (by decide) (s_178 (d := 40)) (fun r hr => ?_)
  subst hr
  rw [g2]
  show hL X 41 k_352 [] (kl_26.drop 29 ++ K_27) (lwv n (some (vI (nI cv.1))) (some (vI v))) [vI (nI cv.1)] p' s2 (kc + kd) (ks + sd) Q
  refine h_pure 1 (k' := (kl_26.drop 30 ++ K_27)) (lv' := (lwv n (some (vI (nI cv.1))) (some (vI v)))) (st' := [vI (nI cv.1), vI (nI cv.1)]) rfl ?_
  refine h_if2 (k' := (kl_26.drop 33 ++ K_27)) (P := True) ((to_26 1914 (by decide)).trans rfl) ⟨fun _ => trivial, fun _ => rfl⟩ (fun _ => ?_) (fun h => absurd trivial h)
  have nx' := nx A2 p' s2 (kc + kd) (ks + sd) (some (vI (nI cv.1))) (some (vI v)) gI gC gM (by omega) (by omega)
  refine h_pure 1 (k' := (kl_26.drop 34 ++ K_27)) (lv' := (lwv n (some (vI (nI cv.1))) (some (vI v)))) (st' := [vI (nI cv.1)]) rfl ?_
  refine h_if1 (k' := (kl_26.drop 44 ++ K_27)) (P := ¬ nI cv.1 = 0) ((to_26 1931 (by decide)).trans rfl) Iff.rfl (fun _ => (h_goto (k' := K_42) sk_42 nx')) (fun h0 => ?_)
  have c0 : cv.1 = 0 := hc0 (Classical.not_not.mp h0)
  refine h_pure 2 (k' := (kl_26.drop 37 ++ K_27)) (lv' := (lwv n (some (vI (nI cv.1))) (some (vI v)))) (st' := [vI 0, vR 900]) rfl ?_
  refine h_lald ?_
  have e3 : v = cv.2 := g3 c0
  subst e3
  rw [g1, h9 c0]
  refine h_pure 1 (k' := (kl_26.drop 39 ++ K_27)) (lv' := (lwv n (some (vI (nI cv.1))) (some (vI cv.2)))) (st' := [vI cv.2, vL (id cv.2)]) rfl ?_
  refine h_i2l (h_lcmp ?_)
  rw [show am_lcmp (id cv.2) cv.2 = 0 from am_lcmp_self _]
  exact h_if1 (k' := (kl_26.drop 44 ++ K_27)) (P := True) ((to_26 1931 (by decide)).trans rfl) ⟨fun _ => trivial, fun _ => rfl⟩ (fun _ => (h_goto (k' := K_42) sk_42 nx')) (fun h => absurd trivial h)
/-- alike -/
theorem lc_26 {X : Nat × (Nat → Int32)} {n : Nat} {p : Nat → Nat} {sg : Mg} {kc ks B2 : Nat} {o5 o6 : Option AV} {Q : am_R → Prop} (hX : X.1 < 2147483648) (hn : n + 6 ≤ X.1) {Af As : AS} {cv : Nat × Int32} (hw : gF X 41 342 [vR 0, vI (X.2 (n + 1)), vI (X.2 (n + 2)), vI (if X.2 (n + 3) ≠ 0 then 1 else 0), vR 900] p sg (wR Af As cv id sg)) (hm : mOK X B2 289 [vI (X.2 (n + 1)), vI (X.2 (n + 2)), vI (if X.2 (n + 3) ≠ 0 then 1 else 0)] Af As cv sg) (hc0 : nI cv.1 = 0 → cv.1 = 0) (nx : NX X n B2 kc ks Q) : hL X 41 k_352 [] K_27 (lwv n o5 o6) [] p sg kc ks Q := by
  refine h_pure 1 (k' := (kl_27.drop 1 ++ K_28)) (lv' := (lwv n o5 o6)) (st' := [vR 0]) rfl ?_
  refine h_pure 4 (k' := (kl_27.drop 5 ++ K_28)) (lv' := (lwv n o5 o6)) (st' := [vI (nI n + 1), vX, vR 0]) rfl ?_
  refine h_sld (j := n + 1) (nI_add n 1) (by omega) hX ?_
  refine h_pure 4 (k' := (kl_27.drop 10 ++ K_28)) (lv' := (lwv n o5 o6)) (st' := [vI (nI n + 2), vX, vI (X.2 (n + 1)), vR 0]) rfl ?_
  refine h_sld (j := n + 2) (nI_add n 2) (by omega) hX ?_
  refine h_pure 4 (k' := (kl_27.drop 15 ++ K_28)) (lv' := (lwv n o5 o6)) (st' := [vI (nI n + 3), vX, vI (X.2 (n + 2)), vI (X.2 (n + 1)), vR 0]) rfl ?_
  refine h_sld (j := n + 3) (nI_add n 3) (by omega) hX ?_
  refine h_bool ((to_27 1960 (by decide)).trans rfl) ((to_27 1961 (by decide)).trans rfl) ?_
  refine h_pure 1 (k' := (kl_27.drop 21 ++ K_28)) (lv' := (lwv n o5 o6)) (st' := [vR 900, vI (if X.2 (n + 3) ≠ 0 then 1 else 0), vI (X.2 (n + 2)), vI (X.2 (n + 1)), vR 0]) rfl ?_
  refine h_calS (args := [vR 0, vI (X.2 (n + 1)), vI (X.2 (n + 2)), vI (if X.2 (n + 3) ≠ 0 then 1 else 0), vR 900]) (rest := []) rfl rfl (by decide) hw (fun r hr => ?_)
  obtain ⟨p', s, h1, hr⟩ := hr
  obtain ⟨kd, sd, hk1, hk2, e⟩ : ∃ kd sd, kd ≤ 1 ∧ sd ≤ 6 ∧ r = ((gE p', s), .inl (some (vI (nI cv.1))), kd, sd) := by
    rcases hr with ⟨c0, -, -, e⟩ | ⟨c0, -, e⟩
    · exact ⟨0, 0, Nat.zero_le _, Nat.zero_le _, by rw [e, c0]; rfl⟩
    · exact ⟨1, 6, Nat.le_refl _, Nat.le_refl _, e⟩
  have hRC : RC (if cv.1 = 0 then As else Af) p' s := by
    rcases hr with ⟨c0, h, -, -⟩ | ⟨c0, h, -⟩
    · rw [if_pos c0]; exact h
    · rw [if_neg c0]; exact h
  have h9 : cv.1 = 0 → s 900 0 = id cv.2 := by
    intro c0
    rcases hr with ⟨-, -, h, -⟩ | ⟨c1, -, -⟩
    · exact h
    · exact absurd c0 c1
  subst e
  show hL X 41 k_352 [] (kl_27.drop 22 ++ K_28) (lwv n o5 o6) [vI (nI cv.1)] p' s (kc + kd) (ks + sd) Q
  refine h_pure 2 (k' := (kl_27.drop 24 ++ K_28)) (lv' := (lwv n (some (vI (nI cv.1))) o6)) (st' := [vR 800]) rfl ?_
  refine h_pure 4 (k' := (kl_27.drop 28 ++ K_28)) (lv' := (lwv n (some (vI (nI cv.1))) o6)) (st' := [vI (nI n + 1), vX, vR 800]) rfl ?_
  refine h_sld (j := n + 1) (nI_add n 1) (by omega) hX ?_
  refine h_pure 4 (k' := (kl_27.drop 33 ++ K_28)) (lv' := (lwv n (some (vI (nI cv.1))) o6)) (st' := [vI (nI n + 2), vX, vI (X.2 (n + 1)), vR 800]) rfl ?_
  refine h_sld (j := n + 2) (nI_add n 2) (by omega) hX ?_
  refine h_pure 4 (k' := (kl_27.drop 38 ++ K_28)) (lv' := (lwv n (some (vI (nI cv.1))) o6)) (st' := [vI (nI n + 3), vX, vI (X.2 (n + 2)), vI (X.2 (n + 1)), vR 800]) rfl ?_
  refine h_sld (j := n + 3) (nI_add n 3) (by omega) hX ?_
  refine h_bool ((to_27 1993 (by decide)).trans rfl) ((to_27 1994 (by decide)).trans rfl) ?_
  refine h_calV (args := [vR 800, vI (X.2 (n + 1)), vI (X.2 (n + 2)), vI (if X.2 (n + 3) ≠ 0 then 1 else 0)]) (rest := []) rfl rfl (by decide) (hm p' s h1 hRC) (fun r hr => ?_)
  obtain ⟨s2, v, A2, g1, g2, g3, rfl, gI, gC, gM⟩ := hr
  show hL X 41 k_352 [] (kl_27.drop 44 ++ K_28) (lwv n (some (vI (nI cv.1))) o6) [vI v] p' s2 (kc + kd) (ks + sd) Q
  refine h_pure 2 (k' := (kl_27.drop 46 ++ K_28)) (lv' := (lwv n (some (vI (nI cv.1))) (some (vI v)))) (st' := [vR 800]) rfl ?_
  refine h_calV (args := [vR 800]) (rest := []) rfl rfl (by decide) (s_178 (d := 40)) (fun r hr => ?_)
  subst hr
  rw [g2]
  show hL X 41 k_352 [] (kl_27.drop 47 ++ K_28) (lwv n (some (vI (nI cv.1))) (some (vI v))) [vI (nI cv.1)] p' s2 (kc + kd) (ks + sd) Q
  refine h_pure 1 (k' := (kl_27.drop 48 ++ K_28)) (lv' := (lwv n (some (vI (nI cv.1))) (some (vI v)))) (st' := [vI (nI cv.1), vI (nI cv.1)]) rfl ?_
  refine h_if2 (k' := (kl_27.drop 51 ++ K_28)) (P := True) ((to_27 2010 (by decide)).trans rfl) ⟨fun _ => trivial, fun _ => rfl⟩ (fun _ => ?_) (fun h => absurd trivial h)
  have nx' := nx A2 p' s2 (kc + kd) (ks + sd) (some (vI (nI cv.1))) (some (vI v)) gI gC gM (by omega) (by omega)
  refine h_pure 1 (k' := (kl_27.drop 52 ++ K_28)) (lv' := (lwv n (some (vI (nI cv.1))) (some (vI v)))) (st' := [vI (nI cv.1)]) rfl ?_
  refine h_if1 (k' := (kl_27.drop 62 ++ K_28)) (P := ¬ nI cv.1 = 0) ((to_27 2027 (by decide)).trans rfl) Iff.rfl (fun _ => (h_goto (k' := K_42) sk_42 nx')) (fun h0 => ?_)
  have c0 : cv.1 = 0 := hc0 (Classical.not_not.mp h0)
  refine h_pure 2 (k' := (kl_27.drop 55 ++ K_28)) (lv' := (lwv n (some (vI (nI cv.1))) (some (vI v)))) (st' := [vI 0, vR 900]) rfl ?_
  refine h_lald ?_
  have e3 : v = cv.2 := g3 c0
  subst e3
  rw [g1, h9 c0]
  refine h_pure 1 (k' := (kl_27.drop 57 ++ K_28)) (lv' := (lwv n (some (vI (nI cv.1))) (some (vI cv.2)))) (st' := [vI cv.2, vL (id cv.2)]) rfl ?_
  refine h_i2l (h_lcmp ?_)
  rw [show am_lcmp (id cv.2) cv.2 = 0 from am_lcmp_self _]
  exact h_if1 (k' := (kl_27.drop 62 ++ K_28)) (P := True) ((to_27 2027 (by decide)).trans rfl) ⟨fun _ => trivial, fun _ => rfl⟩ (fun _ => (h_goto (k' := K_42) sk_42 nx')) (fun h => absurd trivial h)
/-- touch -/
theorem lc_27 {X : Nat × (Nat → Int32)} {n : Nat} {p : Nat → Nat} {sg : Mg} {kc ks B2 : Nat} {o5 o6 : Option AV} {Q : am_R → Prop} (hX : X.1 < 2147483648) (hn : n + 6 ≤ X.1) {Af As : AS} {cv : Nat × Int32} (hw : gF X 41 343 [vR 0, vI (X.2 (n + 1)), vI (X.2 (n + 2)), vI (if X.2 (n + 3) ≠ 0 then 1 else 0), vR 900] p sg (wR Af As cv id sg)) (hm : mOK X B2 291 [vI (X.2 (n + 1)), vI (X.2 (n + 2)), vI (if X.2 (n + 3) ≠ 0 then 1 else 0)] Af As cv sg) (hc0 : nI cv.1 = 0 → cv.1 = 0) (nx : NX X n B2 kc ks Q) : hL X 41 k_352 [] K_28 (lwv n o5 o6) [] p sg kc ks Q := by
  refine h_pure 1 (k' := (kl_28.drop 1 ++ K_29)) (lv' := (lwv n o5 o6)) (st' := [vR 0]) rfl ?_
  refine h_pure 4 (k' := (kl_28.drop 5 ++ K_29)) (lv' := (lwv n o5 o6)) (st' := [vI (nI n + 1), vX, vR 0]) rfl ?_
  refine h_sld (j := n + 1) (nI_add n 1) (by omega) hX ?_
  refine h_pure 4 (k' := (kl_28.drop 10 ++ K_29)) (lv' := (lwv n o5 o6)) (st' := [vI (nI n + 2), vX, vI (X.2 (n + 1)), vR 0]) rfl ?_
  refine h_sld (j := n + 2) (nI_add n 2) (by omega) hX ?_
  refine h_pure 4 (k' := (kl_28.drop 15 ++ K_29)) (lv' := (lwv n o5 o6)) (st' := [vI (nI n + 3), vX, vI (X.2 (n + 2)), vI (X.2 (n + 1)), vR 0]) rfl ?_
  refine h_sld (j := n + 3) (nI_add n 3) (by omega) hX ?_
  refine h_bool ((to_28 2056 (by decide)).trans rfl) ((to_28 2057 (by decide)).trans rfl) ?_
  refine h_pure 1 (k' := (kl_28.drop 21 ++ K_29)) (lv' := (lwv n o5 o6)) (st' := [vR 900, vI (if X.2 (n + 3) ≠ 0 then 1 else 0), vI (X.2 (n + 2)), vI (X.2 (n + 1)), vR 0]) rfl ?_
  refine h_calS (args := [vR 0, vI (X.2 (n + 1)), vI (X.2 (n + 2)), vI (if X.2 (n + 3) ≠ 0 then 1 else 0), vR 900]) (rest := []) rfl rfl (by decide) hw (fun r hr => ?_)
  obtain ⟨p', s, h1, hr⟩ := hr
  obtain ⟨kd, sd, hk1, hk2, e⟩ : ∃ kd sd, kd ≤ 1 ∧ sd ≤ 6 ∧ r = ((gE p', s), .inl (some (vI (nI cv.1))), kd, sd) := by
    rcases hr with ⟨c0, -, -, e⟩ | ⟨c0, -, e⟩
    · exact ⟨0, 0, Nat.zero_le _, Nat.zero_le _, by rw [e, c0]; rfl⟩
    · exact ⟨1, 6, Nat.le_refl _, Nat.le_refl _, e⟩
  have hRC : RC (if cv.1 = 0 then As else Af) p' s := by
    rcases hr with ⟨c0, h, -, -⟩ | ⟨c0, h, -⟩
    · rw [if_pos c0]; exact h
    · rw [if_neg c0]; exact h
  have h9 : cv.1 = 0 → s 900 0 = id cv.2 := by
    intro c0
    rcases hr with ⟨-, -, h, -⟩ | ⟨c1, -, -⟩
    · exact h
    · exact absurd c0 c1
  subst e
  show hL X 41 k_352 [] (kl_28.drop 22 ++ K_29) (lwv n o5 o6) [vI (nI cv.1)] p' s (kc + kd) (ks + sd) Q
  refine h_pure 2 (k' := (kl_28.drop 24 ++ K_29)) (lv' := (lwv n (some (vI (nI cv.1))) o6)) (st' := [vR 800]) rfl ?_
  refine h_pure 4 (k' := (kl_28.drop 28 ++ K_29)) (lv' := (lwv n (some (vI (nI cv.1))) o6)) (st' := [vI (nI n + 1), vX, vR 800]) rfl ?_
  refine h_sld (j := n + 1) (nI_add n 1) (by omega) hX ?_
  refine h_pure 4 (k' := (kl_28.drop 33 ++ K_29)) (lv' := (lwv n (some (vI (nI cv.1))) o6)) (st' := [vI (nI n + 2), vX, vI (X.2 (n + 1)), vR 800]) rfl ?_
  refine h_sld (j := n + 2) (nI_add n 2) (by omega) hX ?_
  refine h_pure 4 (k' := (kl_28.drop 38 ++ K_29)) (lv' := (lwv n (some (vI (nI cv.1))) o6)) (st' := [vI (nI n + 3), vX, vI (X.2 (n + 2)), vI (X.2 (n + 1)), vR 800]) rfl ?_
  refine h_sld (j := n + 3) (nI_add n 3) (by omega) hX ?_
  refine h_bool ((to_28 2089 (by decide)).trans rfl) ((to_28 2090 (by decide)).trans rfl) ?_
  refine h_calV (args := [vR 800, vI (X.2 (n + 1)), vI (X.2 (n + 2)), vI (if X.2 (n + 3) ≠ 0 then 1 else 0)]) (rest := []) rfl rfl (by decide) (hm p' s h1 hRC) (fun r hr => ?_)
  obtain ⟨s2, v, A2, g1, g2, g3, rfl, gI, gC, gM⟩ := hr
  show hL X 41 k_352 [] (kl_28.drop 44 ++ K_29) (lwv n (some (vI (nI cv.1))) o6) [vI v] p' s2 (kc + kd) (ks + sd) Q
  refine h_pure 2 (k' := (kl_28.drop 46 ++ K_29)) (lv' := (lwv n (some (vI (nI cv.1))) (some (vI v)))) (st' := [vR 800]) rfl ?_
  refine h_calV (args := [vR 800]) (rest := []) rfl rfl (by decide) (s_178 (d := 40)) (fun r hr => ?_)
  subst hr
  rw [g2]
  show hL X 41 k_352 [] (kl_28.drop 47 ++ K_29) (lwv n (some (vI (nI cv.1))) (some (vI v))) [vI (nI cv.1)] p' s2 (kc + kd) (ks + sd) Q
  refine h_pure 1 (k' := (kl_28.drop 48 ++ K_29)) (lv' := (lwv n (some (vI (nI cv.1))) (some (vI v)))) (st' := [vI (nI cv.1), vI (nI cv.1)]) rfl ?_
  refine h_if2 (k' := (kl_28.drop 51 ++ K_29)) (P := True) ((to_28 2106 (by decide)).trans rfl) ⟨fun _ => trivial, fun _ => rfl⟩ (fun _ => ?_) (fun h => absurd trivial h)
  have nx' := nx A2 p' s2 (kc + kd) (ks + sd) (some (vI (nI cv.1))) (some (vI v)) gI gC gM (by omega) (by omega)
  refine h_pure 1 (k' := (kl_28.drop 52 ++ K_29)) (lv' := (lwv n (some (vI (nI cv.1))) (some (vI v)))) (st' := [vI (nI cv.1)]) rfl ?_
  refine h_if1 (k' := (kl_28.drop 62 ++ K_29)) (P := ¬ nI cv.1 = 0) ((to_28 2123 (by decide)).trans rfl) Iff.rfl (fun _ => (h_goto (k' := K_42) sk_42 nx')) (fun h0 => ?_)
  have c0 : cv.1 = 0 := hc0 (Classical.not_not.mp h0)
  refine h_pure 2 (k' := (kl_28.drop 55 ++ K_29)) (lv' := (lwv n (some (vI (nI cv.1))) (some (vI v)))) (st' := [vI 0, vR 900]) rfl ?_
  refine h_lald ?_
  have e3 : v = cv.2 := g3 c0
  subst e3
  rw [g1, h9 c0]
  refine h_pure 1 (k' := (kl_28.drop 57 ++ K_29)) (lv' := (lwv n (some (vI (nI cv.1))) (some (vI cv.2)))) (st' := [vI cv.2, vL (id cv.2)]) rfl ?_
  refine h_i2l (h_lcmp ?_)
  rw [show am_lcmp (id cv.2) cv.2 = 0 from am_lcmp_self _]
  exact h_if1 (k' := (kl_28.drop 62 ++ K_29)) (P := True) ((to_28 2123 (by decide)).trans rfl) ⟨fun _ => trivial, fun _ => rfl⟩ (fun _ => (h_goto (k' := K_42) sk_42 nx')) (fun h => absurd trivial h)
/-- round -/
theorem lc_28 {X : Nat × (Nat → Int32)} {n : Nat} {p : Nat → Nat} {sg : Mg} {kc ks B2 : Nat} {o5 o6 : Option AV} {Q : am_R → Prop} (hX : X.1 < 2147483648) (hn : n + 6 ≤ X.1) {Af As : AS} {cv : Nat × Int32} (hw : gF X 41 344 [vR 0, vI (X.2 (n + 1)), vI (X.2 (n + 2)), vR 900] p sg (wR Af As cv id sg)) (hm : mOK X B2 293 [vI (X.2 (n + 1)), vI (X.2 (n + 2))] Af As cv sg) (hc0 : nI cv.1 = 0 → cv.1 = 0) (nx : NX X n B2 kc ks Q) : hL X 41 k_352 [] K_29 (lwv n o5 o6) [] p sg kc ks Q := by
  refine h_pure 1 (k' := (kl_29.drop 1 ++ K_30)) (lv' := (lwv n o5 o6)) (st' := [vR 0]) rfl ?_
  refine h_pure 4 (k' := (kl_29.drop 5 ++ K_30)) (lv' := (lwv n o5 o6)) (st' := [vI (nI n + 1), vX, vR 0]) rfl ?_
  refine h_sld (j := n + 1) (nI_add n 1) (by omega) hX ?_
  refine h_pure 4 (k' := (kl_29.drop 10 ++ K_30)) (lv' := (lwv n o5 o6)) (st' := [vI (nI n + 2), vX, vI (X.2 (n + 1)), vR 0]) rfl ?_
  refine h_sld (j := n + 2) (nI_add n 2) (by omega) hX ?_
  refine h_pure 1 (k' := (kl_29.drop 12 ++ K_30)) (lv' := (lwv n o5 o6)) (st' := [vR 900, vI (X.2 (n + 2)), vI (X.2 (n + 1)), vR 0]) rfl ?_
  refine h_calS (args := [vR 0, vI (X.2 (n + 1)), vI (X.2 (n + 2)), vR 900]) (rest := []) rfl rfl (by decide) hw (fun r hr => ?_)
  obtain ⟨p', s, h1, hr⟩ := hr
  obtain ⟨kd, sd, hk1, hk2, e⟩ : ∃ kd sd, kd ≤ 1 ∧ sd ≤ 6 ∧ r = ((gE p', s), .inl (some (vI (nI cv.1))), kd, sd) := by
    rcases hr with ⟨c0, -, -, e⟩ | ⟨c0, -, e⟩
    · exact ⟨0, 0, Nat.zero_le _, Nat.zero_le _, by rw [e, c0]; rfl⟩
    · exact ⟨1, 6, Nat.le_refl _, Nat.le_refl _, e⟩
  have hRC : RC (if cv.1 = 0 then As else Af) p' s := by
    rcases hr with ⟨c0, h, -, -⟩ | ⟨c0, h, -⟩
    · rw [if_pos c0]; exact h
    · rw [if_neg c0]; exact h
  have h9 : cv.1 = 0 → s 900 0 = id cv.2 := by
    intro c0
    rcases hr with ⟨-, -, h, -⟩ | ⟨c1, -, -⟩
    · exact h
    · exact absurd c0 c1
  subst e
  show hL X 41 k_352 [] (kl_29.drop 13 ++ K_30) (lwv n o5 o6) [vI (nI cv.1)] p' s (kc + kd) (ks + sd) Q
  refine h_pure 2 (k' := (kl_29.drop 15 ++ K_30)) (lv' := (lwv n (some (vI (nI cv.1))) o6)) (st' := [vR 800]) rfl ?_
  refine h_pure 4 (k' := (kl_29.drop 19 ++ K_30)) (lv' := (lwv n (some (vI (nI cv.1))) o6)) (st' := [vI (nI n + 1), vX, vR 800]) rfl ?_
  refine h_sld (j := n + 1) (nI_add n 1) (by omega) hX ?_
  refine h_pure 4 (k' := (kl_29.drop 24 ++ K_30)) (lv' := (lwv n (some (vI (nI cv.1))) o6)) (st' := [vI (nI n + 2), vX, vI (X.2 (n + 1)), vR 800]) rfl ?_
  refine h_sld (j := n + 2) (nI_add n 2) (by omega) hX ?_
  refine h_calV (args := [vR 800, vI (X.2 (n + 1)), vI (X.2 (n + 2))]) (rest := []) rfl rfl (by decide) (hm p' s h1 hRC) (fun r hr => ?_)
  obtain ⟨s2, v, A2, g1, g2, g3, rfl, gI, gC, gM⟩ := hr
  show hL X 41 k_352 [] (kl_29.drop 26 ++ K_30) (lwv n (some (vI (nI cv.1))) o6) [vI v] p' s2 (kc + kd) (ks + sd) Q
  refine h_pure 2 (k' := (kl_29.drop 28 ++ K_30)) (lv' := (lwv n (some (vI (nI cv.1))) (some (vI v)))) (st' := [vR 800]) rfl ?_
  refine h_calV (args := [vR 800]) (rest := []) rfl rfl (by decide) (s_178 (d := 40)) (fun r hr => ?_)
  subst hr
  rw [g2]
  show hL X 41 k_352 [] (kl_29.drop 29 ++ K_30) (lwv n (some (vI (nI cv.1))) (some (vI v))) [vI (nI cv.1)] p' s2 (kc + kd) (ks + sd) Q
  refine h_pure 1 (k' := (kl_29.drop 30 ++ K_30)) (lv' := (lwv n (some (vI (nI cv.1))) (some (vI v)))) (st' := [vI (nI cv.1), vI (nI cv.1)]) rfl ?_
  refine h_if2 (k' := (kl_29.drop 33 ++ K_30)) (P := True) ((to_29 2174 (by decide)).trans rfl) ⟨fun _ => trivial, fun _ => rfl⟩ (fun _ => ?_) (fun h => absurd trivial h)
  have nx' := nx A2 p' s2 (kc + kd) (ks + sd) (some (vI (nI cv.1))) (some (vI v)) gI gC gM (by omega) (by omega)
  refine h_pure 1 (k' := (kl_29.drop 34 ++ K_30)) (lv' := (lwv n (some (vI (nI cv.1))) (some (vI v)))) (st' := [vI (nI cv.1)]) rfl ?_
  refine h_if1 (k' := (kl_29.drop 44 ++ K_30)) (P := ¬ nI cv.1 = 0) ((to_29 2191 (by decide)).trans rfl) Iff.rfl (fun _ => (h_goto (k' := K_42) sk_42 nx')) (fun h0 => ?_)
  have c0 : cv.1 = 0 := hc0 (Classical.not_not.mp h0)
  refine h_pure 2 (k' := (kl_29.drop 37 ++ K_30)) (lv' := (lwv n (some (vI (nI cv.1))) (some (vI v)))) (st' := [vI 0, vR 900]) rfl ?_
  refine h_lald ?_
  have e3 : v = cv.2 := g3 c0
  subst e3
  rw [g1, h9 c0]
  refine h_pure 1 (k' := (kl_29.drop 39 ++ K_30)) (lv' := (lwv n (some (vI (nI cv.1))) (some (vI cv.2)))) (st' := [vI cv.2, vL (id cv.2)]) rfl ?_
  refine h_i2l (h_lcmp ?_)
  rw [show am_lcmp (id cv.2) cv.2 = 0 from am_lcmp_self _]
  exact h_if1 (k' := (kl_29.drop 44 ++ K_30)) (P := True) ((to_29 2191 (by decide)).trans rfl) ⟨fun _ => trivial, fun _ => rfl⟩ (fun _ => (h_goto (k' := K_42) sk_42 nx')) (fun h => absurd trivial h)
/-- bread -/
theorem lc_29 {X : Nat × (Nat → Int32)} {n : Nat} {p : Nat → Nat} {sg : Mg} {kc ks B2 : Nat} {o5 o6 : Option AV} {Q : am_R → Prop} (hX : X.1 < 2147483648) (hn : n + 6 ≤ X.1) {Af As : AS} {cv : Nat × Int32} (hw : gF X 41 345 [vR 0, vR 900] p sg (wR Af As cv id sg)) (hm : mOK X B2 294 [] Af As cv sg) (hc0 : nI cv.1 = 0 → cv.1 = 0) (nx : NX X n B2 kc ks Q) : hL X 41 k_352 [] K_30 (lwv n o5 o6) [] p sg kc ks Q := by
  refine h_pure 1 (k' := (kl_30.drop 1 ++ K_31)) (lv' := (lwv n o5 o6)) (st' := [vR 0]) rfl ?_
  refine h_pure 1 (k' := (kl_30.drop 2 ++ K_31)) (lv' := (lwv n o5 o6)) (st' := [vR 900, vR 0]) rfl ?_
  refine h_calS (args := [vR 0, vR 900]) (rest := []) rfl rfl (by decide) hw (fun r hr => ?_)
  obtain ⟨p', s, h1, hr⟩ := hr
  obtain ⟨kd, sd, hk1, hk2, e⟩ : ∃ kd sd, kd ≤ 1 ∧ sd ≤ 6 ∧ r = ((gE p', s), .inl (some (vI (nI cv.1))), kd, sd) := by
    rcases hr with ⟨c0, -, -, e⟩ | ⟨c0, -, e⟩
    · exact ⟨0, 0, Nat.zero_le _, Nat.zero_le _, by rw [e, c0]; rfl⟩
    · exact ⟨1, 6, Nat.le_refl _, Nat.le_refl _, e⟩
  have hRC : RC (if cv.1 = 0 then As else Af) p' s := by
    rcases hr with ⟨c0, h, -, -⟩ | ⟨c0, h, -⟩
    · rw [if_pos c0]; exact h
    · rw [if_neg c0]; exact h
  have h9 : cv.1 = 0 → s 900 0 = id cv.2 := by
    intro c0
    rcases hr with ⟨-, -, h, -⟩ | ⟨c1, -, -⟩
    · exact h
    · exact absurd c0 c1
  subst e
  show hL X 41 k_352 [] (kl_30.drop 3 ++ K_31) (lwv n o5 o6) [vI (nI cv.1)] p' s (kc + kd) (ks + sd) Q
  refine h_pure 2 (k' := (kl_30.drop 5 ++ K_31)) (lv' := (lwv n (some (vI (nI cv.1))) o6)) (st' := [vR 800]) rfl ?_
  refine h_calV (args := [vR 800]) (rest := []) rfl rfl (by decide) (hm p' s h1 hRC) (fun r hr => ?_)
  obtain ⟨s2, v, A2, g1, g2, g3, rfl, gI, gC, gM⟩ := hr
  show hL X 41 k_352 [] (kl_30.drop 6 ++ K_31) (lwv n (some (vI (nI cv.1))) o6) [vI v] p' s2 (kc + kd) (ks + sd) Q
  refine h_pure 2 (k' := (kl_30.drop 8 ++ K_31)) (lv' := (lwv n (some (vI (nI cv.1))) (some (vI v)))) (st' := [vR 800]) rfl ?_
  refine h_calV (args := [vR 800]) (rest := []) rfl rfl (by decide) (s_178 (d := 40)) (fun r hr => ?_)
  subst hr
  rw [g2]
  show hL X 41 k_352 [] (kl_30.drop 9 ++ K_31) (lwv n (some (vI (nI cv.1))) (some (vI v))) [vI (nI cv.1)] p' s2 (kc + kd) (ks + sd) Q
  refine h_pure 1 (k' := (kl_30.drop 10 ++ K_31)) (lv' := (lwv n (some (vI (nI cv.1))) (some (vI v)))) (st' := [vI (nI cv.1), vI (nI cv.1)]) rfl ?_
  refine h_if2 (k' := (kl_30.drop 13 ++ K_31)) (P := True) ((to_30 2218 (by decide)).trans rfl) ⟨fun _ => trivial, fun _ => rfl⟩ (fun _ => ?_) (fun h => absurd trivial h)
  have nx' := nx A2 p' s2 (kc + kd) (ks + sd) (some (vI (nI cv.1))) (some (vI v)) gI gC gM (by omega) (by omega)
  refine h_pure 1 (k' := (kl_30.drop 14 ++ K_31)) (lv' := (lwv n (some (vI (nI cv.1))) (some (vI v)))) (st' := [vI (nI cv.1)]) rfl ?_
  refine h_if1 (k' := (kl_30.drop 24 ++ K_31)) (P := ¬ nI cv.1 = 0) ((to_30 2235 (by decide)).trans rfl) Iff.rfl (fun _ => (h_goto (k' := K_42) sk_42 nx')) (fun h0 => ?_)
  have c0 : cv.1 = 0 := hc0 (Classical.not_not.mp h0)
  refine h_pure 2 (k' := (kl_30.drop 17 ++ K_31)) (lv' := (lwv n (some (vI (nI cv.1))) (some (vI v)))) (st' := [vI 0, vR 900]) rfl ?_
  refine h_lald ?_
  have e3 : v = cv.2 := g3 c0
  subst e3
  rw [g1, h9 c0]
  refine h_pure 1 (k' := (kl_30.drop 19 ++ K_31)) (lv' := (lwv n (some (vI (nI cv.1))) (some (vI cv.2)))) (st' := [vI cv.2, vL (id cv.2)]) rfl ?_
  refine h_i2l (h_lcmp ?_)
  rw [show am_lcmp (id cv.2) cv.2 = 0 from am_lcmp_self _]
  exact h_if1 (k' := (kl_30.drop 24 ++ K_31)) (P := True) ((to_30 2235 (by decide)).trans rfl) ⟨fun _ => trivial, fun _ => rfl⟩ (fun _ => (h_goto (k' := K_42) sk_42 nx')) (fun h => absurd trivial h)
/-- tables -/
theorem lc_30 {X : Nat × (Nat → Int32)} {n : Nat} {p : Nat → Nat} {sg : Mg} {kc ks B2 : Nat} {o5 o6 : Option AV} {Q : am_R → Prop} (hX : X.1 < 2147483648) (hn : n + 6 ≤ X.1) {Af As : AS} {cv : Nat × Int32} (hw : gF X 41 346 [vR 0, vR 900] p sg (wR Af As cv id sg)) (hm : mOK X B2 296 [] Af As cv sg) (hc0 : nI cv.1 = 0 → cv.1 = 0) (nx : NX X n B2 kc ks Q) : hL X 41 k_352 [] K_31 (lwv n o5 o6) [] p sg kc ks Q := by
  refine h_pure 1 (k' := (kl_31.drop 1 ++ K_32)) (lv' := (lwv n o5 o6)) (st' := [vR 0]) rfl ?_
  refine h_pure 1 (k' := (kl_31.drop 2 ++ K_32)) (lv' := (lwv n o5 o6)) (st' := [vR 900, vR 0]) rfl ?_
  refine h_calS (args := [vR 0, vR 900]) (rest := []) rfl rfl (by decide) hw (fun r hr => ?_)
  obtain ⟨p', s, h1, hr⟩ := hr
  obtain ⟨kd, sd, hk1, hk2, e⟩ : ∃ kd sd, kd ≤ 1 ∧ sd ≤ 6 ∧ r = ((gE p', s), .inl (some (vI (nI cv.1))), kd, sd) := by
    rcases hr with ⟨c0, -, -, e⟩ | ⟨c0, -, e⟩
    · exact ⟨0, 0, Nat.zero_le _, Nat.zero_le _, by rw [e, c0]; rfl⟩
    · exact ⟨1, 6, Nat.le_refl _, Nat.le_refl _, e⟩
  have hRC : RC (if cv.1 = 0 then As else Af) p' s := by
    rcases hr with ⟨c0, h, -, -⟩ | ⟨c0, h, -⟩
    · rw [if_pos c0]; exact h
    · rw [if_neg c0]; exact h
  have h9 : cv.1 = 0 → s 900 0 = id cv.2 := by
    intro c0
    rcases hr with ⟨-, -, h, -⟩ | ⟨c1, -, -⟩
    · exact h
    · exact absurd c0 c1
  subst e
  show hL X 41 k_352 [] (kl_31.drop 3 ++ K_32) (lwv n o5 o6) [vI (nI cv.1)] p' s (kc + kd) (ks + sd) Q
  refine h_pure 2 (k' := (kl_31.drop 5 ++ K_32)) (lv' := (lwv n (some (vI (nI cv.1))) o6)) (st' := [vR 800]) rfl ?_
  refine h_calV (args := [vR 800]) (rest := []) rfl rfl (by decide) (hm p' s h1 hRC) (fun r hr => ?_)
  obtain ⟨s2, v, A2, g1, g2, g3, rfl, gI, gC, gM⟩ := hr
  show hL X 41 k_352 [] (kl_31.drop 6 ++ K_32) (lwv n (some (vI (nI cv.1))) o6) [vI v] p' s2 (kc + kd) (ks + sd) Q
  refine h_pure 2 (k' := (kl_31.drop 8 ++ K_32)) (lv' := (lwv n (some (vI (nI cv.1))) (some (vI v)))) (st' := [vR 800]) rfl ?_
  refine h_calV (args := [vR 800]) (rest := []) rfl rfl (by decide) (s_178 (d := 40)) (fun r hr => ?_)
  subst hr
  rw [g2]
  show hL X 41 k_352 [] (kl_31.drop 9 ++ K_32) (lwv n (some (vI (nI cv.1))) (some (vI v))) [vI (nI cv.1)] p' s2 (kc + kd) (ks + sd) Q
  refine h_pure 1 (k' := (kl_31.drop 10 ++ K_32)) (lv' := (lwv n (some (vI (nI cv.1))) (some (vI v)))) (st' := [vI (nI cv.1), vI (nI cv.1)]) rfl ?_
  refine h_if2 (k' := (kl_31.drop 13 ++ K_32)) (P := True) ((to_31 2262 (by decide)).trans rfl) ⟨fun _ => trivial, fun _ => rfl⟩ (fun _ => ?_) (fun h => absurd trivial h)
  have nx' := nx A2 p' s2 (kc + kd) (ks + sd) (some (vI (nI cv.1))) (some (vI v)) gI gC gM (by omega) (by omega)
  refine h_pure 1 (k' := (kl_31.drop 14 ++ K_32)) (lv' := (lwv n (some (vI (nI cv.1))) (some (vI v)))) (st' := [vI (nI cv.1)]) rfl ?_
  refine h_if1 (k' := (kl_31.drop 24 ++ K_32)) (P := ¬ nI cv.1 = 0) ((to_31 2279 (by decide)).trans rfl) Iff.rfl (fun _ => (h_goto (k' := K_42) sk_42 nx')) (fun h0 => ?_)
  have c0 : cv.1 = 0 := hc0 (Classical.not_not.mp h0)
  refine h_pure 2 (k' := (kl_31.drop 17 ++ K_32)) (lv' := (lwv n (some (vI (nI cv.1))) (some (vI v)))) (st' := [vI 0, vR 900]) rfl ?_
  refine h_lald ?_
  have e3 : v = cv.2 := g3 c0
  subst e3
  rw [g1, h9 c0]
  refine h_pure 1 (k' := (kl_31.drop 19 ++ K_32)) (lv' := (lwv n (some (vI (nI cv.1))) (some (vI cv.2)))) (st' := [vI cv.2, vL (id cv.2)]) rfl ?_
  refine h_i2l (h_lcmp ?_)
  rw [show am_lcmp (id cv.2) cv.2 = 0 from am_lcmp_self _]
  exact h_if1 (k' := (kl_31.drop 24 ++ K_32)) (P := True) ((to_31 2279 (by decide)).trans rfl) ⟨fun _ => trivial, fun _ => rfl⟩ (fun _ => (h_goto (k' := K_42) sk_42 nx')) (fun h => absurd trivial h)
/-- early -/
theorem lc_31 {X : Nat × (Nat → Int32)} {n : Nat} {p : Nat → Nat} {sg : Mg} {kc ks B2 : Nat} {o5 o6 : Option AV} {Q : am_R → Prop} (hX : X.1 < 2147483648) (hn : n + 6 ≤ X.1) {Af As : AS} {cv : Nat × Int32} (hw : gF X 41 347 [vR 0, vI (X.2 (n + 1)), vR 900] p sg (wR Af As cv id sg)) (hm : mOK X B2 298 [vI (X.2 (n + 1))] Af As cv sg) (hc0 : nI cv.1 = 0 → cv.1 = 0) (nx : NX X n B2 kc ks Q) : hL X 41 k_352 [] K_32 (lwv n o5 o6) [] p sg kc ks Q := by
  refine h_pure 1 (k' := (kl_32.drop 1 ++ K_33)) (lv' := (lwv n o5 o6)) (st' := [vR 0]) rfl ?_
  refine h_pure 4 (k' := (kl_32.drop 5 ++ K_33)) (lv' := (lwv n o5 o6)) (st' := [vI (nI n + 1), vX, vR 0]) rfl ?_
  refine h_sld (j := n + 1) (nI_add n 1) (by omega) hX ?_
  refine h_pure 1 (k' := (kl_32.drop 7 ++ K_33)) (lv' := (lwv n o5 o6)) (st' := [vR 900, vI (X.2 (n + 1)), vR 0]) rfl ?_
  refine h_calS (args := [vR 0, vI (X.2 (n + 1)), vR 900]) (rest := []) rfl rfl (by decide) hw (fun r hr => ?_)
  obtain ⟨p', s, h1, hr⟩ := hr
  obtain ⟨kd, sd, hk1, hk2, e⟩ : ∃ kd sd, kd ≤ 1 ∧ sd ≤ 6 ∧ r = ((gE p', s), .inl (some (vI (nI cv.1))), kd, sd) := by
    rcases hr with ⟨c0, -, -, e⟩ | ⟨c0, -, e⟩
    · exact ⟨0, 0, Nat.zero_le _, Nat.zero_le _, by rw [e, c0]; rfl⟩
    · exact ⟨1, 6, Nat.le_refl _, Nat.le_refl _, e⟩
  have hRC : RC (if cv.1 = 0 then As else Af) p' s := by
    rcases hr with ⟨c0, h, -, -⟩ | ⟨c0, h, -⟩
    · rw [if_pos c0]; exact h
    · rw [if_neg c0]; exact h
  have h9 : cv.1 = 0 → s 900 0 = id cv.2 := by
    intro c0
    rcases hr with ⟨-, -, h, -⟩ | ⟨c1, -, -⟩
    · exact h
    · exact absurd c0 c1
  subst e
  show hL X 41 k_352 [] (kl_32.drop 8 ++ K_33) (lwv n o5 o6) [vI (nI cv.1)] p' s (kc + kd) (ks + sd) Q
  refine h_pure 2 (k' := (kl_32.drop 10 ++ K_33)) (lv' := (lwv n (some (vI (nI cv.1))) o6)) (st' := [vR 800]) rfl ?_
  refine h_pure 4 (k' := (kl_32.drop 14 ++ K_33)) (lv' := (lwv n (some (vI (nI cv.1))) o6)) (st' := [vI (nI n + 1), vX, vR 800]) rfl ?_
  refine h_sld (j := n + 1) (nI_add n 1) (by omega) hX ?_
  refine h_calV (args := [vR 800, vI (X.2 (n + 1))]) (rest := []) rfl rfl (by decide) (hm p' s h1 hRC) (fun r hr => ?_)
  obtain ⟨s2, v, A2, g1, g2, g3, rfl, gI, gC, gM⟩ := hr
  show hL X 41 k_352 [] (kl_32.drop 16 ++ K_33) (lwv n (some (vI (nI cv.1))) o6) [vI v] p' s2 (kc + kd) (ks + sd) Q
  refine h_pure 2 (k' := (kl_32.drop 18 ++ K_33)) (lv' := (lwv n (some (vI (nI cv.1))) (some (vI v)))) (st' := [vR 800]) rfl ?_
  refine h_calV (args := [vR 800]) (rest := []) rfl rfl (by decide) (s_178 (d := 40)) (fun r hr => ?_)
  subst hr
  rw [g2]
  show hL X 41 k_352 [] (kl_32.drop 19 ++ K_33) (lwv n (some (vI (nI cv.1))) (some (vI v))) [vI (nI cv.1)] p' s2 (kc + kd) (ks + sd) Q
  refine h_pure 1 (k' := (kl_32.drop 20 ++ K_33)) (lv' := (lwv n (some (vI (nI cv.1))) (some (vI v)))) (st' := [vI (nI cv.1), vI (nI cv.1)]) rfl ?_
  refine h_if2 (k' := (kl_32.drop 23 ++ K_33)) (P := True) ((to_32 2318 (by decide)).trans rfl) ⟨fun _ => trivial, fun _ => rfl⟩ (fun _ => ?_) (fun h => absurd trivial h)
  have nx' := nx A2 p' s2 (kc + kd) (ks + sd) (some (vI (nI cv.1))) (some (vI v)) gI gC gM (by omega) (by omega)
  refine h_pure 1 (k' := (kl_32.drop 24 ++ K_33)) (lv' := (lwv n (some (vI (nI cv.1))) (some (vI v)))) (st' := [vI (nI cv.1)]) rfl ?_
  refine h_if1 (k' := (kl_32.drop 34 ++ K_33)) (P := ¬ nI cv.1 = 0) ((to_32 2335 (by decide)).trans rfl) Iff.rfl (fun _ => (h_goto (k' := K_42) sk_42 nx')) (fun h0 => ?_)
  have c0 : cv.1 = 0 := hc0 (Classical.not_not.mp h0)
  refine h_pure 2 (k' := (kl_32.drop 27 ++ K_33)) (lv' := (lwv n (some (vI (nI cv.1))) (some (vI v)))) (st' := [vI 0, vR 900]) rfl ?_
  refine h_lald ?_
  have e3 : v = cv.2 := g3 c0
  subst e3
  rw [g1, h9 c0]
  refine h_pure 1 (k' := (kl_32.drop 29 ++ K_33)) (lv' := (lwv n (some (vI (nI cv.1))) (some (vI cv.2)))) (st' := [vI cv.2, vL (id cv.2)]) rfl ?_
  refine h_i2l (h_lcmp ?_)
  rw [show am_lcmp (id cv.2) cv.2 = 0 from am_lcmp_self _]
  exact h_if1 (k' := (kl_32.drop 34 ++ K_33)) (P := True) ((to_32 2335 (by decide)).trans rfl) ⟨fun _ => trivial, fun _ => rfl⟩ (fun _ => (h_goto (k' := K_42) sk_42 nx')) (fun h => absurd trivial h)
/-- netted -/
theorem lc_32 {X : Nat × (Nat → Int32)} {n : Nat} {p : Nat → Nat} {sg : Mg} {kc ks B2 : Nat} {o5 o6 : Option AV} {Q : am_R → Prop} (hX : X.1 < 2147483648) (hn : n + 6 ≤ X.1) {Af As : AS} {cv : Nat × Int32} (hw : gF X 41 348 [vR 0, vI (X.2 (n + 1)), vR 900] p sg (wR Af As cv id sg)) (hm : mOK X B2 299 [vI (X.2 (n + 1))] Af As cv sg) (hc0 : nI cv.1 = 0 → cv.1 = 0) (nx : NX X n B2 kc ks Q) : hL X 41 k_352 [] K_33 (lwv n o5 o6) [] p sg kc ks Q := by
  refine h_pure 1 (k' := (kl_33.drop 1 ++ K_34)) (lv' := (lwv n o5 o6)) (st' := [vR 0]) rfl ?_
  refine h_pure 4 (k' := (kl_33.drop 5 ++ K_34)) (lv' := (lwv n o5 o6)) (st' := [vI (nI n + 1), vX, vR 0]) rfl ?_
  refine h_sld (j := n + 1) (nI_add n 1) (by omega) hX ?_
  refine h_pure 1 (k' := (kl_33.drop 7 ++ K_34)) (lv' := (lwv n o5 o6)) (st' := [vR 900, vI (X.2 (n + 1)), vR 0]) rfl ?_
  refine h_calS (args := [vR 0, vI (X.2 (n + 1)), vR 900]) (rest := []) rfl rfl (by decide) hw (fun r hr => ?_)
  obtain ⟨p', s, h1, hr⟩ := hr
  obtain ⟨kd, sd, hk1, hk2, e⟩ : ∃ kd sd, kd ≤ 1 ∧ sd ≤ 6 ∧ r = ((gE p', s), .inl (some (vI (nI cv.1))), kd, sd) := by
    rcases hr with ⟨c0, -, -, e⟩ | ⟨c0, -, e⟩
    · exact ⟨0, 0, Nat.zero_le _, Nat.zero_le _, by rw [e, c0]; rfl⟩
    · exact ⟨1, 6, Nat.le_refl _, Nat.le_refl _, e⟩
  have hRC : RC (if cv.1 = 0 then As else Af) p' s := by
    rcases hr with ⟨c0, h, -, -⟩ | ⟨c0, h, -⟩
    · rw [if_pos c0]; exact h
    · rw [if_neg c0]; exact h
  have h9 : cv.1 = 0 → s 900 0 = id cv.2 := by
    intro c0
    rcases hr with ⟨-, -, h, -⟩ | ⟨c1, -, -⟩
    · exact h
    · exact absurd c0 c1
  subst e
  show hL X 41 k_352 [] (kl_33.drop 8 ++ K_34) (lwv n o5 o6) [vI (nI cv.1)] p' s (kc + kd) (ks + sd) Q
  refine h_pure 2 (k' := (kl_33.drop 10 ++ K_34)) (lv' := (lwv n (some (vI (nI cv.1))) o6)) (st' := [vR 800]) rfl ?_
  refine h_pure 4 (k' := (kl_33.drop 14 ++ K_34)) (lv' := (lwv n (some (vI (nI cv.1))) o6)) (st' := [vI (nI n + 1), vX, vR 800]) rfl ?_
  refine h_sld (j := n + 1) (nI_add n 1) (by omega) hX ?_
  refine h_calV (args := [vR 800, vI (X.2 (n + 1))]) (rest := []) rfl rfl (by decide) (hm p' s h1 hRC) (fun r hr => ?_)
  obtain ⟨s2, v, A2, g1, g2, g3, rfl, gI, gC, gM⟩ := hr
  show hL X 41 k_352 [] (kl_33.drop 16 ++ K_34) (lwv n (some (vI (nI cv.1))) o6) [vI v] p' s2 (kc + kd) (ks + sd) Q
  refine h_pure 2 (k' := (kl_33.drop 18 ++ K_34)) (lv' := (lwv n (some (vI (nI cv.1))) (some (vI v)))) (st' := [vR 800]) rfl ?_
  refine h_calV (args := [vR 800]) (rest := []) rfl rfl (by decide) (s_178 (d := 40)) (fun r hr => ?_)
  subst hr
  rw [g2]
  show hL X 41 k_352 [] (kl_33.drop 19 ++ K_34) (lwv n (some (vI (nI cv.1))) (some (vI v))) [vI (nI cv.1)] p' s2 (kc + kd) (ks + sd) Q
  refine h_pure 1 (k' := (kl_33.drop 20 ++ K_34)) (lv' := (lwv n (some (vI (nI cv.1))) (some (vI v)))) (st' := [vI (nI cv.1), vI (nI cv.1)]) rfl ?_
  refine h_if2 (k' := (kl_33.drop 23 ++ K_34)) (P := True) ((to_33 2374 (by decide)).trans rfl) ⟨fun _ => trivial, fun _ => rfl⟩ (fun _ => ?_) (fun h => absurd trivial h)
  have nx' := nx A2 p' s2 (kc + kd) (ks + sd) (some (vI (nI cv.1))) (some (vI v)) gI gC gM (by omega) (by omega)
  refine h_pure 1 (k' := (kl_33.drop 24 ++ K_34)) (lv' := (lwv n (some (vI (nI cv.1))) (some (vI v)))) (st' := [vI (nI cv.1)]) rfl ?_
  refine h_if1 (k' := (kl_33.drop 34 ++ K_34)) (P := ¬ nI cv.1 = 0) ((to_33 2391 (by decide)).trans rfl) Iff.rfl (fun _ => (h_goto (k' := K_42) sk_42 nx')) (fun h0 => ?_)
  have c0 : cv.1 = 0 := hc0 (Classical.not_not.mp h0)
  refine h_pure 2 (k' := (kl_33.drop 27 ++ K_34)) (lv' := (lwv n (some (vI (nI cv.1))) (some (vI v)))) (st' := [vI 0, vR 900]) rfl ?_
  refine h_lald ?_
  have e3 : v = cv.2 := g3 c0
  subst e3
  rw [g1, h9 c0]
  refine h_pure 1 (k' := (kl_33.drop 29 ++ K_34)) (lv' := (lwv n (some (vI (nI cv.1))) (some (vI cv.2)))) (st' := [vI cv.2, vL (id cv.2)]) rfl ?_
  refine h_i2l (h_lcmp ?_)
  rw [show am_lcmp (id cv.2) cv.2 = 0 from am_lcmp_self _]
  exact h_if1 (k' := (kl_33.drop 34 ++ K_34)) (P := True) ((to_33 2391 (by decide)).trans rfl) ⟨fun _ => trivial, fun _ => rfl⟩ (fun _ => (h_goto (k' := K_42) sk_42 nx')) (fun h => absurd trivial h)
/-- feasted -/
theorem lc_33 {X : Nat × (Nat → Int32)} {n : Nat} {p : Nat → Nat} {sg : Mg} {kc ks B2 : Nat} {o5 o6 : Option AV} {Q : am_R → Prop} (hX : X.1 < 2147483648) (hn : n + 6 ≤ X.1) {Af As : AS} {cv : Nat × Int32} (hw : gF X 41 349 [vR 0, vI (X.2 (n + 1)), vI (X.2 (n + 2)), vR 900] p sg (wR Af As cv id sg)) (hm : mOK X B2 302 [vI (X.2 (n + 1)), vI (X.2 (n + 2))] Af As cv sg) (hc0 : nI cv.1 = 0 → cv.1 = 0) (nx : NX X n B2 kc ks Q) : hL X 41 k_352 [] K_34 (lwv n o5 o6) [] p sg kc ks Q := by
  refine h_pure 1 (k' := (kl_34.drop 1 ++ K_35)) (lv' := (lwv n o5 o6)) (st' := [vR 0]) rfl ?_
  refine h_pure 4 (k' := (kl_34.drop 5 ++ K_35)) (lv' := (lwv n o5 o6)) (st' := [vI (nI n + 1), vX, vR 0]) rfl ?_
  refine h_sld (j := n + 1) (nI_add n 1) (by omega) hX ?_
  refine h_pure 4 (k' := (kl_34.drop 10 ++ K_35)) (lv' := (lwv n o5 o6)) (st' := [vI (nI n + 2), vX, vI (X.2 (n + 1)), vR 0]) rfl ?_
  refine h_sld (j := n + 2) (nI_add n 2) (by omega) hX ?_
  refine h_pure 1 (k' := (kl_34.drop 12 ++ K_35)) (lv' := (lwv n o5 o6)) (st' := [vR 900, vI (X.2 (n + 2)), vI (X.2 (n + 1)), vR 0]) rfl ?_
  refine h_calS (args := [vR 0, vI (X.2 (n + 1)), vI (X.2 (n + 2)), vR 900]) (rest := []) rfl rfl (by decide) hw (fun r hr => ?_)
  obtain ⟨p', s, h1, hr⟩ := hr
  obtain ⟨kd, sd, hk1, hk2, e⟩ : ∃ kd sd, kd ≤ 1 ∧ sd ≤ 6 ∧ r = ((gE p', s), .inl (some (vI (nI cv.1))), kd, sd) := by
    rcases hr with ⟨c0, -, -, e⟩ | ⟨c0, -, e⟩
    · exact ⟨0, 0, Nat.zero_le _, Nat.zero_le _, by rw [e, c0]; rfl⟩
    · exact ⟨1, 6, Nat.le_refl _, Nat.le_refl _, e⟩
  have hRC : RC (if cv.1 = 0 then As else Af) p' s := by
    rcases hr with ⟨c0, h, -, -⟩ | ⟨c0, h, -⟩
    · rw [if_pos c0]; exact h
    · rw [if_neg c0]; exact h
  have h9 : cv.1 = 0 → s 900 0 = id cv.2 := by
    intro c0
    rcases hr with ⟨-, -, h, -⟩ | ⟨c1, -, -⟩
    · exact h
    · exact absurd c0 c1
  subst e
  show hL X 41 k_352 [] (kl_34.drop 13 ++ K_35) (lwv n o5 o6) [vI (nI cv.1)] p' s (kc + kd) (ks + sd) Q
  refine h_pure 2 (k' := (kl_34.drop 15 ++ K_35)) (lv' := (lwv n (some (vI (nI cv.1))) o6)) (st' := [vR 800]) rfl ?_
  refine h_pure 4 (k' := (kl_34.drop 19 ++ K_35)) (lv' := (lwv n (some (vI (nI cv.1))) o6)) (st' := [vI (nI n + 1), vX, vR 800]) rfl ?_
  refine h_sld (j := n + 1) (nI_add n 1) (by omega) hX ?_
  refine h_pure 4 (k' := (kl_34.drop 24 ++ K_35)) (lv' := (lwv n (some (vI (nI cv.1))) o6)) (st' := [vI (nI n + 2), vX, vI (X.2 (n + 1)), vR 800]) rfl ?_
  refine h_sld (j := n + 2) (nI_add n 2) (by omega) hX ?_
  refine h_calV (args := [vR 800, vI (X.2 (n + 1)), vI (X.2 (n + 2))]) (rest := []) rfl rfl (by decide) (hm p' s h1 hRC) (fun r hr => ?_)
  obtain ⟨s2, v, A2, g1, g2, g3, rfl, gI, gC, gM⟩ := hr
  show hL X 41 k_352 [] (kl_34.drop 26 ++ K_35) (lwv n (some (vI (nI cv.1))) o6) [vI v] p' s2 (kc + kd) (ks + sd) Q
  refine h_pure 2 (k' := (kl_34.drop 28 ++ K_35)) (lv' := (lwv n (some (vI (nI cv.1))) (some (vI v)))) (st' := [vR 800]) rfl ?_
  refine h_calV (args := [vR 800]) (rest := []) rfl rfl (by decide) (s_178 (d := 40)) (fun r hr => ?_)
  subst hr
  rw [g2]
  show hL X 41 k_352 [] (kl_34.drop 29 ++ K_35) (lwv n (some (vI (nI cv.1))) (some (vI v))) [vI (nI cv.1)] p' s2 (kc + kd) (ks + sd) Q
  refine h_pure 1 (k' := (kl_34.drop 30 ++ K_35)) (lv' := (lwv n (some (vI (nI cv.1))) (some (vI v)))) (st' := [vI (nI cv.1), vI (nI cv.1)]) rfl ?_
  refine h_if2 (k' := (kl_34.drop 33 ++ K_35)) (P := True) ((to_34 2442 (by decide)).trans rfl) ⟨fun _ => trivial, fun _ => rfl⟩ (fun _ => ?_) (fun h => absurd trivial h)
  have nx' := nx A2 p' s2 (kc + kd) (ks + sd) (some (vI (nI cv.1))) (some (vI v)) gI gC gM (by omega) (by omega)
  refine h_pure 1 (k' := (kl_34.drop 34 ++ K_35)) (lv' := (lwv n (some (vI (nI cv.1))) (some (vI v)))) (st' := [vI (nI cv.1)]) rfl ?_
  refine h_if1 (k' := (kl_34.drop 44 ++ K_35)) (P := ¬ nI cv.1 = 0) ((to_34 2459 (by decide)).trans rfl) Iff.rfl (fun _ => (h_goto (k' := K_42) sk_42 nx')) (fun h0 => ?_)
  have c0 : cv.1 = 0 := hc0 (Classical.not_not.mp h0)
  refine h_pure 2 (k' := (kl_34.drop 37 ++ K_35)) (lv' := (lwv n (some (vI (nI cv.1))) (some (vI v)))) (st' := [vI 0, vR 900]) rfl ?_
  refine h_lald ?_
  have e3 : v = cv.2 := g3 c0
  subst e3
  rw [g1, h9 c0]
  refine h_pure 1 (k' := (kl_34.drop 39 ++ K_35)) (lv' := (lwv n (some (vI (nI cv.1))) (some (vI cv.2)))) (st' := [vI cv.2, vL (id cv.2)]) rfl ?_
  refine h_i2l (h_lcmp ?_)
  rw [show am_lcmp (id cv.2) cv.2 = 0 from am_lcmp_self _]
  exact h_if1 (k' := (kl_34.drop 44 ++ K_35)) (P := True) ((to_34 2459 (by decide)).trans rfl) ⟨fun _ => trivial, fun _ => rfl⟩ (fun _ => (h_goto (k' := K_42) sk_42 nx')) (fun h => absurd trivial h)
/-- plan -/
theorem lc_34 {X : Nat × (Nat → Int32)} {n : Nat} {p : Nat → Nat} {sg : Mg} {kc ks B2 : Nat} {o5 o6 : Option AV} {Q : am_R → Prop} (hX : X.1 < 2147483648) (hn : n + 6 ≤ X.1) {Af As : AS} {cv : Nat × Int32} (hw : gF X 41 350 [vR 0, vI (X.2 (n + 1)), vI (X.2 (n + 2)), vI (if X.2 (n + 3) ≠ 0 then 1 else 0), vR 900] p sg (wR Af As cv id sg)) (hm : mOK X B2 304 [vI (X.2 (n + 1)), vI (X.2 (n + 2)), vI (if X.2 (n + 3) ≠ 0 then 1 else 0)] Af As cv sg) (hc0 : nI cv.1 = 0 → cv.1 = 0) (nx : NX X n B2 kc ks Q) : hL X 41 k_352 [] K_35 (lwv n o5 o6) [] p sg kc ks Q := by
  refine h_pure 1 (k' := (kl_35.drop 1 ++ K_36)) (lv' := (lwv n o5 o6)) (st' := [vR 0]) rfl ?_
  refine h_pure 4 (k' := (kl_35.drop 5 ++ K_36)) (lv' := (lwv n o5 o6)) (st' := [vI (nI n + 1), vX, vR 0]) rfl ?_
  refine h_sld (j := n + 1) (nI_add n 1) (by omega) hX ?_
  refine h_pure 4 (k' := (kl_35.drop 10 ++ K_36)) (lv' := (lwv n o5 o6)) (st' := [vI (nI n + 2), vX, vI (X.2 (n + 1)), vR 0]) rfl ?_
  refine h_sld (j := n + 2) (nI_add n 2) (by omega) hX ?_
  refine h_pure 4 (k' := (kl_35.drop 15 ++ K_36)) (lv' := (lwv n o5 o6)) (st' := [vI (nI n + 3), vX, vI (X.2 (n + 2)), vI (X.2 (n + 1)), vR 0]) rfl ?_
  refine h_sld (j := n + 3) (nI_add n 3) (by omega) hX ?_
  refine h_bool ((to_35 2488 (by decide)).trans rfl) ((to_35 2489 (by decide)).trans rfl) ?_
  refine h_pure 1 (k' := (kl_35.drop 21 ++ K_36)) (lv' := (lwv n o5 o6)) (st' := [vR 900, vI (if X.2 (n + 3) ≠ 0 then 1 else 0), vI (X.2 (n + 2)), vI (X.2 (n + 1)), vR 0]) rfl ?_
  refine h_calS (args := [vR 0, vI (X.2 (n + 1)), vI (X.2 (n + 2)), vI (if X.2 (n + 3) ≠ 0 then 1 else 0), vR 900]) (rest := []) rfl rfl (by decide) hw (fun r hr => ?_)
  obtain ⟨p', s, h1, hr⟩ := hr
  obtain ⟨kd, sd, hk1, hk2, e⟩ : ∃ kd sd, kd ≤ 1 ∧ sd ≤ 6 ∧ r = ((gE p', s), .inl (some (vI (nI cv.1))), kd, sd) := by
    rcases hr with ⟨c0, -, -, e⟩ | ⟨c0, -, e⟩
    · exact ⟨0, 0, Nat.zero_le _, Nat.zero_le _, by rw [e, c0]; rfl⟩
    · exact ⟨1, 6, Nat.le_refl _, Nat.le_refl _, e⟩
  have hRC : RC (if cv.1 = 0 then As else Af) p' s := by
    rcases hr with ⟨c0, h, -, -⟩ | ⟨c0, h, -⟩
    · rw [if_pos c0]; exact h
    · rw [if_neg c0]; exact h
  have h9 : cv.1 = 0 → s 900 0 = id cv.2 := by
    intro c0
    rcases hr with ⟨-, -, h, -⟩ | ⟨c1, -, -⟩
    · exact h
    · exact absurd c0 c1
  subst e
  show hL X 41 k_352 [] (kl_35.drop 22 ++ K_36) (lwv n o5 o6) [vI (nI cv.1)] p' s (kc + kd) (ks + sd) Q
  refine h_pure 2 (k' := (kl_35.drop 24 ++ K_36)) (lv' := (lwv n (some (vI (nI cv.1))) o6)) (st' := [vR 800]) rfl ?_
  refine h_pure 4 (k' := (kl_35.drop 28 ++ K_36)) (lv' := (lwv n (some (vI (nI cv.1))) o6)) (st' := [vI (nI n + 1), vX, vR 800]) rfl ?_
  refine h_sld (j := n + 1) (nI_add n 1) (by omega) hX ?_
  refine h_pure 4 (k' := (kl_35.drop 33 ++ K_36)) (lv' := (lwv n (some (vI (nI cv.1))) o6)) (st' := [vI (nI n + 2), vX, vI (X.2 (n + 1)), vR 800]) rfl ?_
  refine h_sld (j := n + 2) (nI_add n 2) (by omega) hX ?_
  refine h_pure 4 (k' := (kl_35.drop 38 ++ K_36)) (lv' := (lwv n (some (vI (nI cv.1))) o6)) (st' := [vI (nI n + 3), vX, vI (X.2 (n + 2)), vI (X.2 (n + 1)), vR 800]) rfl ?_
  refine h_sld (j := n + 3) (nI_add n 3) (by omega) hX ?_
  refine h_bool ((to_35 2521 (by decide)).trans rfl) ((to_35 2522 (by decide)).trans rfl) ?_
  refine h_calV (args := [vR 800, vI (X.2 (n + 1)), vI (X.2 (n + 2)), vI (if X.2 (n + 3) ≠ 0 then 1 else 0)]) (rest := []) rfl rfl (by decide) (hm p' s h1 hRC) (fun r hr => ?_)
  obtain ⟨s2, v, A2, g1, g2, g3, rfl, gI, gC, gM⟩ := hr
  show hL X 41 k_352 [] (kl_35.drop 44 ++ K_36) (lwv n (some (vI (nI cv.1))) o6) [vI v] p' s2 (kc + kd) (ks + sd) Q
  refine h_pure 2 (k' := (kl_35.drop 46 ++ K_36)) (lv' := (lwv n (some (vI (nI cv.1))) (some (vI v)))) (st' := [vR 800]) rfl ?_
  refine h_calV (args := [vR 800]) (rest := []) rfl rfl (by decide) (s_178 (d := 40)) (fun r hr => ?_)
  subst hr
  rw [g2]
  show hL X 41 k_352 [] (kl_35.drop 47 ++ K_36) (lwv n (some (vI (nI cv.1))) (some (vI v))) [vI (nI cv.1)] p' s2 (kc + kd) (ks + sd) Q
  refine h_pure 1 (k' := (kl_35.drop 48 ++ K_36)) (lv' := (lwv n (some (vI (nI cv.1))) (some (vI v)))) (st' := [vI (nI cv.1), vI (nI cv.1)]) rfl ?_
  refine h_if2 (k' := (kl_35.drop 51 ++ K_36)) (P := True) ((to_35 2538 (by decide)).trans rfl) ⟨fun _ => trivial, fun _ => rfl⟩ (fun _ => ?_) (fun h => absurd trivial h)
  have nx' := nx A2 p' s2 (kc + kd) (ks + sd) (some (vI (nI cv.1))) (some (vI v)) gI gC gM (by omega) (by omega)
  refine h_pure 1 (k' := (kl_35.drop 52 ++ K_36)) (lv' := (lwv n (some (vI (nI cv.1))) (some (vI v)))) (st' := [vI (nI cv.1)]) rfl ?_
  refine h_if1 (k' := (kl_35.drop 62 ++ K_36)) (P := ¬ nI cv.1 = 0) ((to_35 2555 (by decide)).trans rfl) Iff.rfl (fun _ => (h_goto (k' := K_42) sk_42 nx')) (fun h0 => ?_)
  have c0 : cv.1 = 0 := hc0 (Classical.not_not.mp h0)
  refine h_pure 2 (k' := (kl_35.drop 55 ++ K_36)) (lv' := (lwv n (some (vI (nI cv.1))) (some (vI v)))) (st' := [vI 0, vR 900]) rfl ?_
  refine h_lald ?_
  have e3 : v = cv.2 := g3 c0
  subst e3
  rw [g1, h9 c0]
  refine h_pure 1 (k' := (kl_35.drop 57 ++ K_36)) (lv' := (lwv n (some (vI (nI cv.1))) (some (vI cv.2)))) (st' := [vI cv.2, vL (id cv.2)]) rfl ?_
  refine h_i2l (h_lcmp ?_)
  rw [show am_lcmp (id cv.2) cv.2 = 0 from am_lcmp_self _]
  exact h_if1 (k' := (kl_35.drop 62 ++ K_36)) (P := True) ((to_35 2555 (by decide)).trans rfl) ⟨fun _ => trivial, fun _ => rfl⟩ (fun _ => (h_goto (k' := K_42) sk_42 nx')) (fun h => absurd trivial h)
/-- log -/
theorem lc_35 {X : Nat × (Nat → Int32)} {n : Nat} {p : Nat → Nat} {sg : Mg} {kc ks B2 : Nat} {o5 o6 : Option AV} {Q : am_R → Prop} (hX : X.1 < 2147483648) (hn : n + 6 ≤ X.1) {Af As : AS} {cv : Nat × Int32} (hw : gF X 41 351 [vR 0, vI (X.2 (n + 1)), vI (X.2 (n + 2)), vR 900] p sg (wR Af As cv id sg)) (hm : mOK X B2 310 [vI (X.2 (n + 1)), vI (X.2 (n + 2))] Af As cv sg) (hc0 : nI cv.1 = 0 → cv.1 = 0) (nx : NX X n B2 kc ks Q) : hL X 41 k_352 [] K_36 (lwv n o5 o6) [] p sg kc ks Q := by
  refine h_pure 1 (k' := (kl_36.drop 1 ++ K_37)) (lv' := (lwv n o5 o6)) (st' := [vR 0]) rfl ?_
  refine h_pure 4 (k' := (kl_36.drop 5 ++ K_37)) (lv' := (lwv n o5 o6)) (st' := [vI (nI n + 1), vX, vR 0]) rfl ?_
  refine h_sld (j := n + 1) (nI_add n 1) (by omega) hX ?_
  refine h_pure 4 (k' := (kl_36.drop 10 ++ K_37)) (lv' := (lwv n o5 o6)) (st' := [vI (nI n + 2), vX, vI (X.2 (n + 1)), vR 0]) rfl ?_
  refine h_sld (j := n + 2) (nI_add n 2) (by omega) hX ?_
  refine h_pure 1 (k' := (kl_36.drop 12 ++ K_37)) (lv' := (lwv n o5 o6)) (st' := [vR 900, vI (X.2 (n + 2)), vI (X.2 (n + 1)), vR 0]) rfl ?_
  refine h_calS (args := [vR 0, vI (X.2 (n + 1)), vI (X.2 (n + 2)), vR 900]) (rest := []) rfl rfl (by decide) hw (fun r hr => ?_)
  obtain ⟨p', s, h1, hr⟩ := hr
  obtain ⟨kd, sd, hk1, hk2, e⟩ : ∃ kd sd, kd ≤ 1 ∧ sd ≤ 6 ∧ r = ((gE p', s), .inl (some (vI (nI cv.1))), kd, sd) := by
    rcases hr with ⟨c0, -, -, e⟩ | ⟨c0, -, e⟩
    · exact ⟨0, 0, Nat.zero_le _, Nat.zero_le _, by rw [e, c0]; rfl⟩
    · exact ⟨1, 6, Nat.le_refl _, Nat.le_refl _, e⟩
  have hRC : RC (if cv.1 = 0 then As else Af) p' s := by
    rcases hr with ⟨c0, h, -, -⟩ | ⟨c0, h, -⟩
    · rw [if_pos c0]; exact h
    · rw [if_neg c0]; exact h
  have h9 : cv.1 = 0 → s 900 0 = id cv.2 := by
    intro c0
    rcases hr with ⟨-, -, h, -⟩ | ⟨c1, -, -⟩
    · exact h
    · exact absurd c0 c1
  subst e
  show hL X 41 k_352 [] (kl_36.drop 13 ++ K_37) (lwv n o5 o6) [vI (nI cv.1)] p' s (kc + kd) (ks + sd) Q
  refine h_pure 2 (k' := (kl_36.drop 15 ++ K_37)) (lv' := (lwv n (some (vI (nI cv.1))) o6)) (st' := [vR 800]) rfl ?_
  refine h_pure 4 (k' := (kl_36.drop 19 ++ K_37)) (lv' := (lwv n (some (vI (nI cv.1))) o6)) (st' := [vI (nI n + 1), vX, vR 800]) rfl ?_
  refine h_sld (j := n + 1) (nI_add n 1) (by omega) hX ?_
  refine h_pure 4 (k' := (kl_36.drop 24 ++ K_37)) (lv' := (lwv n (some (vI (nI cv.1))) o6)) (st' := [vI (nI n + 2), vX, vI (X.2 (n + 1)), vR 800]) rfl ?_
  refine h_sld (j := n + 2) (nI_add n 2) (by omega) hX ?_
  refine h_calV (args := [vR 800, vI (X.2 (n + 1)), vI (X.2 (n + 2))]) (rest := []) rfl rfl (by decide) (hm p' s h1 hRC) (fun r hr => ?_)
  obtain ⟨s2, v, A2, g1, g2, g3, rfl, gI, gC, gM⟩ := hr
  show hL X 41 k_352 [] (kl_36.drop 26 ++ K_37) (lwv n (some (vI (nI cv.1))) o6) [vI v] p' s2 (kc + kd) (ks + sd) Q
  refine h_pure 2 (k' := (kl_36.drop 28 ++ K_37)) (lv' := (lwv n (some (vI (nI cv.1))) (some (vI v)))) (st' := [vR 800]) rfl ?_
  refine h_calV (args := [vR 800]) (rest := []) rfl rfl (by decide) (s_178 (d := 40)) (fun r hr => ?_)
  subst hr
  rw [g2]
  show hL X 41 k_352 [] (kl_36.drop 29 ++ K_37) (lwv n (some (vI (nI cv.1))) (some (vI v))) [vI (nI cv.1)] p' s2 (kc + kd) (ks + sd) Q
  refine h_pure 1 (k' := (kl_36.drop 30 ++ K_37)) (lv' := (lwv n (some (vI (nI cv.1))) (some (vI v)))) (st' := [vI (nI cv.1), vI (nI cv.1)]) rfl ?_
  refine h_if2 (k' := (kl_36.drop 33 ++ K_37)) (P := True) ((to_36 2606 (by decide)).trans rfl) ⟨fun _ => trivial, fun _ => rfl⟩ (fun _ => ?_) (fun h => absurd trivial h)
  have nx' := nx A2 p' s2 (kc + kd) (ks + sd) (some (vI (nI cv.1))) (some (vI v)) gI gC gM (by omega) (by omega)
  refine h_pure 1 (k' := (kl_36.drop 34 ++ K_37)) (lv' := (lwv n (some (vI (nI cv.1))) (some (vI v)))) (st' := [vI (nI cv.1)]) rfl ?_
  refine h_if1 (k' := (kl_36.drop 44 ++ K_37)) (P := ¬ nI cv.1 = 0) ((to_36 2623 (by decide)).trans rfl) Iff.rfl (fun _ => (h_goto (k' := K_42) sk_42 nx')) (fun h0 => ?_)
  have c0 : cv.1 = 0 := hc0 (Classical.not_not.mp h0)
  refine h_pure 2 (k' := (kl_36.drop 37 ++ K_37)) (lv' := (lwv n (some (vI (nI cv.1))) (some (vI v)))) (st' := [vI 0, vR 900]) rfl ?_
  refine h_lald ?_
  have e3 : v = cv.2 := g3 c0
  subst e3
  rw [g1, h9 c0]
  refine h_pure 1 (k' := (kl_36.drop 39 ++ K_37)) (lv' := (lwv n (some (vI (nI cv.1))) (some (vI cv.2)))) (st' := [vI cv.2, vL (id cv.2)]) rfl ?_
  refine h_i2l (h_lcmp ?_)
  rw [show am_lcmp (id cv.2) cv.2 = 0 from am_lcmp_self _]
  exact h_if1 (k' := (kl_36.drop 44 ++ K_37)) (P := True) ((to_36 2623 (by decide)).trans rfl) ⟨fun _ => trivial, fun _ => rfl⟩ (fun _ => (h_goto (k' := K_42) sk_42 nx')) (fun h => absurd trivial h)
/-- seed -/
theorem lc_36 {X : Nat × (Nat → Int32)} {n : Nat} {p : Nat → Nat} {sg : Mg} {kc ks B2 : Nat} {o5 o6 : Option AV} {Q : am_R → Prop} (hX : X.1 < 2147483648) (hn : n + 6 ≤ X.1) {As : AS} {v : Int32} (hw : gF X 41 129 [vR 0, vI (X.2 (n + 1))] p sg (cR As As (fun _ => 0) (0, v) sg)) (hm : mOK X B2 311 [vI (X.2 (n + 1))] As As (0, v) sg) (nx : NX X n B2 kc ks Q) : hL X 41 k_352 [] K_37 (lwv n o5 o6) [] p sg kc ks Q := by
  refine h_pure 1 (k' := (kl_37.drop 1 ++ K_38)) (lv' := (lwv n o5 o6)) (st' := [vR 0]) rfl ?_
  refine h_pure 4 (k' := (kl_37.drop 5 ++ K_38)) (lv' := (lwv n o5 o6)) (st' := [vI (nI n + 1), vX, vR 0]) rfl ?_
  refine h_sld (j := n + 1) (nI_add n 1) (by omega) hX ?_
  refine h_calV (args := [vR 0, vI (X.2 (n + 1))]) (rest := []) rfl rfl (by decide) hw (fun r hr => ?_)
  obtain ⟨p', s, h1, ⟨-, hRC, rfl⟩ | ⟨c0, -, -⟩⟩ := hr
  case inr => exact absurd rfl c0
  show hL X 41 k_352 [] (kl_37.drop 7 ++ K_38) (lwv n o5 o6) [vI v] p' s kc ks Q
  refine h_pure 1 (k' := (kl_37.drop 8 ++ K_38)) (lv' := (lwv n o5 o6)) (st' := [vR 800, vI v]) rfl ?_
  refine h_pure 4 (k' := (kl_37.drop 12 ++ K_38)) (lv' := (lwv n o5 o6)) (st' := [vI (nI n + 1), vX, vR 800, vI v]) rfl ?_
  refine h_sld (j := n + 1) (nI_add n 1) (by omega) hX ?_
  refine h_calV (args := [vR 800, vI (X.2 (n + 1))]) (rest := [vI v]) rfl rfl (Nat.le_of_ble_eq_true rfl) (hm p' s (fun c hc _ => h1 c hc) hRC) (fun r hr => ?_)
  obtain ⟨s2, v2, A2, g1, g2, g3, rfl, gI, gC, gM⟩ := hr
  have e2 : v2 = v := g3 rfl
  subst e2
  show hL X 41 k_352 [] (kl_37.drop 14 ++ K_38) (lwv n o5 o6) [vI v2, vI v2] p' s2 kc ks Q
  exact h_if2 (k' := K_42) (P := True) sk_42 ⟨fun _ => trivial, fun _ => rfl⟩ (fun _ => nx A2 p' s2 kc ks o5 o6 gI gC gM (by omega) (by omega)) (fun h => absurd trivial h)
/-- undo -/
theorem lc_37 {X : Nat × (Nat → Int32)} {n : Nat} {p : Nat → Nat} {sg : Mg} {kc ks B2 : Nat} {o5 o6 : Option AV} {Q : am_R → Prop} (hX : X.1 < 2147483648) (hn : n + 6 ≤ X.1) {As : AS} {v : Int32} (hw : gF X 41 130 [vR 0] p sg (cR As As (fun _ => 0) (0, v) sg)) (hm : mOK X B2 181 [] As As (0, v) sg) (nx : NX X n B2 kc ks Q) : hL X 41 k_352 [] K_38 (lwv n o5 o6) [] p sg kc ks Q := by
  refine h_pure 1 (k' := (kl_38.drop 1 ++ K_39)) (lv' := (lwv n o5 o6)) (st' := [vR 0]) rfl ?_
  refine h_calV (args := [vR 0]) (rest := []) rfl rfl (by decide) hw (fun r hr => ?_)
  obtain ⟨p', s, h1, ⟨-, hRC, rfl⟩ | ⟨c0, -, -⟩⟩ := hr
  case inr => exact absurd rfl c0
  show hL X 41 k_352 [] (kl_38.drop 2 ++ K_39) (lwv n o5 o6) [vI v] p' s kc ks Q
  refine h_pure 1 (k' := (kl_38.drop 3 ++ K_39)) (lv' := (lwv n o5 o6)) (st' := [vR 800, vI v]) rfl ?_
  refine h_calV (args := [vR 800]) (rest := [vI v]) rfl rfl (Nat.le_of_ble_eq_true rfl) (hm p' s (fun c hc _ => h1 c hc) hRC) (fun r hr => ?_)
  obtain ⟨s2, v2, A2, g1, g2, g3, rfl, gI, gC, gM⟩ := hr
  have e2 : v2 = v := g3 rfl
  subst e2
  show hL X 41 k_352 [] (kl_38.drop 4 ++ K_39) (lwv n o5 o6) [vI v2, vI v2] p' s2 kc ks Q
  exact h_if2 (k' := K_42) (P := True) sk_42 ⟨fun _ => trivial, fun _ => rfl⟩ (fun _ => nx A2 p' s2 kc ks o5 o6 gI gC gM (by omega) (by omega)) (fun h => absurd trivial h)
/-- image -/
theorem lc_38 {X : Nat × (Nat → Int32)} {n : Nat} {p : Nat → Nat} {sg : Mg} {kc ks B2 : Nat} {o5 o6 : Option AV} {Q : am_R → Prop} (hX : X.1 < 2147483648) (hn : n + 6 ≤ X.1) {As : AS} (hw : gF X 41 133 [vR 0] p sg (cR0 As sg)) (hm : ∀ p' s, (∀ c, 800 ≤ c → c ≠ 900 → s c = sg c) → RC As p' s → gF X 41 179 [vR 800] p' s (fun r => ∃ s2, r = gR0 p' s2 ∧ RI B2 As ∧ RC As p' s2 ∧ RM As s2)) (nx : NX X n B2 kc ks Q) : hL X 41 k_352 [] K_39 (lwv n o5 o6) [] p sg kc ks Q := by
  refine h_pure 1 (k' := (kl_39.drop 1 ++ K_40)) (lv' := (lwv n o5 o6)) (st' := [vR 0]) rfl ?_
  refine h_calV (args := [vR 0]) (rest := []) rfl rfl (by decide) hw (fun r hr => ?_)
  obtain ⟨p', s, h1, hRC, rfl⟩ := hr
  show hL X 41 k_352 [] (kl_39.drop 2 ++ K_40) (lwv n o5 o6) [] p' s kc ks Q
  refine h_pure 1 (k' := (kl_39.drop 3 ++ K_40)) (lv' := (lwv n o5 o6)) (st' := [vR 800]) rfl ?_
  refine h_calV (args := [vR 800]) (rest := []) rfl rfl (by decide) (hm p' s (fun c hc _ => h1 c hc) hRC) (fun r hr => ?_)
  obtain ⟨s2, rfl, gI, gC, gM⟩ := hr
  show hL X 41 k_352 [] (kl_39.drop 4 ++ K_40) (lwv n o5 o6) [] p' s2 kc ks Q
  exact h_goto (k' := K_42) sk_42 (nx As p' s2 kc ks o5 o6 gI gC gM (by omega) (by omega))
/-- back -/
theorem lc_39 {X : Nat × (Nat → Int32)} {n : Nat} {p : Nat → Nat} {sg : Mg} {kc ks B2 : Nat} {o5 o6 : Option AV} {Q : am_R → Prop} (hX : X.1 < 2147483648) (hn : n + 6 ≤ X.1) {As : AS} {v : Int32} (hw : gF X 41 134 [vR 0] p sg (cR As As (fun _ => 0) (0, v) sg)) (hm : mOK X B2 180 [] As As (0, v) sg) (nx : NX X n B2 kc ks Q) : hL X 41 k_352 [] K_40 (lwv n o5 o6) [] p sg kc ks Q := by
  refine h_pure 1 (k' := (kl_40.drop 1 ++ K_41)) (lv' := (lwv n o5 o6)) (st' := [vR 0]) rfl ?_
  refine h_calV (args := [vR 0]) (rest := []) rfl rfl (by decide) hw (fun r hr => ?_)
  obtain ⟨p', s, h1, ⟨-, hRC, rfl⟩ | ⟨c0, -, -⟩⟩ := hr
  case inr => exact absurd rfl c0
  show hL X 41 k_352 [] (kl_40.drop 2 ++ K_41) (lwv n o5 o6) [vI v] p' s kc ks Q
  refine h_pure 1 (k' := (kl_40.drop 3 ++ K_41)) (lv' := (lwv n o5 o6)) (st' := [vR 800, vI v]) rfl ?_
  refine h_calV (args := [vR 800]) (rest := [vI v]) rfl rfl (Nat.le_of_ble_eq_true rfl) (hm p' s (fun c hc _ => h1 c hc) hRC) (fun r hr => ?_)
  obtain ⟨s2, v2, A2, g1, g2, g3, rfl, gI, gC, gM⟩ := hr
  have e2 : v2 = v := g3 rfl
  subst e2
  show hL X 41 k_352 [] (kl_40.drop 4 ++ K_41) (lwv n o5 o6) [vI v2, vI v2] p' s2 kc ks Q
  exact h_if2 (k' := K_42) (P := True) sk_42 ⟨fun _ => trivial, fun _ => rfl⟩ (fun _ => nx A2 p' s2 kc ks o5 o6 gI gC gM (by omega) (by omega)) (fun h => absurd trivial h)
/-- count -/
theorem lc_40 {X : Nat × (Nat → Int32)} {n : Nat} {p : Nat → Nat} {sg : Mg} {kc ks B2 : Nat} {o5 o6 : Option AV} {Q : am_R → Prop} (hX : X.1 < 2147483648) (hn : n + 6 ≤ X.1) {As : AS} {v : Int32} (hw : gF X 41 135 [vR 0, vI (X.2 (n + 1))] p sg (cR As As (fun _ => 0) (0, v) sg)) (hm : mOK X B2 312 [vI (X.2 (n + 1))] As As (0, v) sg) (nx : NX X n B2 kc ks Q) : hL X 41 k_352 [] K_41 (lwv n o5 o6) [] p sg kc ks Q := by
  refine h_pure 1 (k' := (kl_41.drop 1 ++ K_42)) (lv' := (lwv n o5 o6)) (st' := [vR 0]) rfl ?_
  refine h_pure 4 (k' := (kl_41.drop 5 ++ K_42)) (lv' := (lwv n o5 o6)) (st' := [vI (nI n + 1), vX, vR 0]) rfl ?_
  refine h_sld (j := n + 1) (nI_add n 1) (by omega) hX ?_
  refine h_calV (args := [vR 0, vI (X.2 (n + 1))]) (rest := []) rfl rfl (by decide) hw (fun r hr => ?_)
  obtain ⟨p', s, h1, ⟨-, hRC, rfl⟩ | ⟨c0, -, -⟩⟩ := hr
  case inr => exact absurd rfl c0
  show hL X 41 k_352 [] (kl_41.drop 7 ++ K_42) (lwv n o5 o6) [vI v] p' s kc ks Q
  refine h_pure 1 (k' := (kl_41.drop 8 ++ K_42)) (lv' := (lwv n o5 o6)) (st' := [vR 800, vI v]) rfl ?_
  refine h_pure 4 (k' := (kl_41.drop 12 ++ K_42)) (lv' := (lwv n o5 o6)) (st' := [vI (nI n + 1), vX, vR 800, vI v]) rfl ?_
  refine h_sld (j := n + 1) (nI_add n 1) (by omega) hX ?_
  refine h_calV (args := [vR 800, vI (X.2 (n + 1))]) (rest := [vI v]) rfl rfl (Nat.le_of_ble_eq_true rfl) (hm p' s (fun c hc _ => h1 c hc) hRC) (fun r hr => ?_)
  obtain ⟨s2, v2, A2, g1, g2, g3, rfl, gI, gC, gM⟩ := hr
  have e2 : v2 = v := g3 rfl
  subst e2
  show hL X 41 k_352 [] (kl_41.drop 14 ++ K_42) (lwv n o5 o6) [vI v2, vI v2] p' s2 kc ks Q
  exact h_if2 (k' := K_42) (P := True) sk_42 ⟨fun _ => trivial, fun _ => rfl⟩ (fun _ => nx A2 p' s2 kc ks o5 o6 gI gC gM (by omega) (by omega)) (fun h => absurd trivial h)
