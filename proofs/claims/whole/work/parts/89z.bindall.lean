/-! TABLES: all clues bound (made by wip/whole/gen89z.py) -/
theorem b_3_0 {X : Nat × (Nat → Int32)} {d : Nat} {p : Nat → Nat} {sg : Mg} {Q : am_R → Prop} {e : Nat} (u_e : e ≤ 9)
    (o1 : gW X (d + 3) k_3 2 [some (vR 16), some (vI (nI e)), some (vI 0)] [] p sg Q) :
    gW X (d + 3) k_3 0 [some (vR 16), some (vI (nI e)), none] [] p sg Q := by
  refine g_pure 2 (i' := 2) (lv' := [some (vR 16), some (vI (nI e)), some (vI 0)]) (st' := []) rfl ?_
  exact o1

theorem b_3_2 {X : Nat × (Nat → Int32)} {d : Nat} {p : Nat → Nat} {sg : Mg} {Q : am_R → Prop} {e : Nat} {j : Nat} (u_e : e ≤ 9) (u_j : j ≤ 9)
    (o1 : (e ≤ j) → gW X (d + 3) k_3 17 [some (vR 16), some (vI (nI e)), some (vI (nI j))] [] p sg Q)
    (o2 : (¬ (e ≤ j)) → ∀ s2 : Mg, s2 = mu sg 18 j (nI j) → ∀ s3 : Mg, s3 = mu s2 19 j 0 → gW X (d + 3) k_3 2 [some (vR 16), some (vI (nI e)), some (vI (nI (j + 1)))] [] p s3 Q) :
    gW X (d + 3) k_3 2 [some (vR 16), some (vI (nI e)), some (vI (nI j))] [] p sg Q := by
  refine g_pure 2 (i' := 4) (lv' := [some (vR 16), some (vI (nI e)), some (vI (nI j))]) (st' := [vI (nI e), vI (nI j)]) rfl ?_
  refine g_if2 (i' := 17) (P := e ≤ j) rfl rfl (g_geN (show nI j = nI j from (rfl : nI j = nI j)) (show nI e = nI e from (rfl : nI e = nI e)) (by omega) (by omega)) (fun h1 => ?_) (fun h1 => ?_)
  · exact o1 h1
  · refine g_pure 4 (i' := 9) (lv' := [some (vR 16), some (vI (nI e)), some (vI (nI j))]) (st' := [vI (nI j), vI (nI j), vR 18]) rfl ?_
    refine g_ast rfl (g_A (a := 18) (kd := 1) (n := 9) rfl (by decide)) (by decide) (show nI j = nI j from (rfl : nI j = nI j)) (by omega) ?_
    refine g_setv (fun s2 es2 => ?_)
    refine g_pure 4 (i' := 14) (lv' := [some (vR 16), some (vI (nI e)), some (vI (nI j))]) (st' := [vI 0, vI (nI j), vR 19]) rfl ?_
    refine g_ast rfl (g_A (a := 19) (kd := 1) (n := 9) rfl (by decide)) (by decide) (show nI j = nI j from (rfl : nI j = nI j)) (by omega) ?_
    refine g_setv (fun s3 es3 => ?_)
    refine g_pure 2 (i' := 2) (lv' := [some (vR 16), some (vI (nI e)), some (vI (nI j + 1))]) (st' := []) rfl ?_
    refine gW_eq (lv' := [some (vR 16), some (vI (nI e)), some (vI (nI (j + 1)))]) (st' := []) (by rw [(show (nI j + 1) = nI (j + 1) from ((g_add (rfl : nI j = nI j) (show (1 : Int32) = nI 1 from rfl))).trans (congrArg nI (by omega)))]) rfl rfl ?_
    exact o2 h1 s2 es2 s3 es3

theorem b_3_19 {X : Nat × (Nat → Int32)} {d : Nat} {p : Nat → Nat} {sg : Mg} {Q : am_R → Prop} {n : Nat} (u_n : n ≤ 400) (kn_16_4 : sg 16 4 = nI n) {e : Nat} {j : Nat} (u_e : e ≤ 9) (u_j : j ≤ 400)
    (o1 : (n ≤ j + 2) → Q (gRv p sg 1))
    (o2 : (¬ (n ≤ j + 2)) → gW X (d + 3) k_3 43 [some (vR 16), some (vI (nI e)), some (vI (nI j))] [vI (nI e), vI (sg 17 (j + 2)), vI (sg 17 (j + 1)), vI (sg 17 j), vR 16] p sg Q) :
    gW X (d + 3) k_3 19 [some (vR 16), some (vI (nI e)), some (vI (nI j))] [] p sg Q := by
  refine g_pure 4 (i' := 23) (lv' := [some (vR 16), some (vI (nI e)), some (vI (nI j))]) (st' := [vR 16, vI (nI j + 2)]) rfl ?_
  refine gW_eq (lv' := [some (vR 16), some (vI (nI e)), some (vI (nI j))]) (st' := [vR 16, vI (nI (j + 2))]) rfl (by rw [(show (nI j + 2) = nI (j + 2) from ((g_add (rfl : nI j = nI j) (show (2 : Int32) = nI 2 from rfl))).trans (congrArg nI (by omega)))]) rfl ?_
  refine g_getI rfl (g_A (a := 16) (kd := 0) (n := 0) rfl (by decide)) (show _ = nI n from kn_16_4) ?_
  refine g_if2 (i' := 49) (P := n ≤ j + 2) rfl rfl (g_geN (show nI (j + 2) = nI (j + 2) from (rfl : nI (j + 2) = nI (j + 2))) (show nI n = nI n from (rfl : nI n = nI n)) (by omega) (by omega)) (fun h1 => ?_) (fun h1 => ?_)
  · refine g_pure 1 (i' := 50) (lv' := [some (vR 16), some (vI (nI e)), some (vI (nI j))]) (st' := [vI 1]) rfl ?_
    refine g_bret rfl g_nar1 ?_
    exact o1 h1
  · refine g_pure 4 (i' := 29) (lv' := [some (vR 16), some (vI (nI e)), some (vI (nI j))]) (st' := [vI (nI j), vR 17, vR 16]) rfl ?_
    refine g_ald rfl (g_A (a := 17) (kd := 1) (n := 400) rfl (by decide)) (by decide) (show nI j = nI j from (rfl : nI j = nI j)) (by omega) (show _ = sg 17 j from rfl) ?_
    refine g_pure 5 (i' := 35) (lv' := [some (vR 16), some (vI (nI e)), some (vI (nI j))]) (st' := [vI (nI j + 1), vR 17, vI (sg 17 j), vR 16]) rfl ?_
    refine gW_eq (lv' := [some (vR 16), some (vI (nI e)), some (vI (nI j))]) (st' := [vI (nI (j + 1)), vR 17, vI (sg 17 j), vR 16]) rfl (by rw [(show (nI j + 1) = nI (j + 1) from ((g_add (rfl : nI j = nI j) (show (1 : Int32) = nI 1 from rfl))).trans (congrArg nI (by omega)))]) rfl ?_
    refine g_ald rfl (g_A (a := 17) (kd := 1) (n := 400) rfl (by decide)) (by decide) (show nI (j + 1) = nI (j + 1) from (rfl : nI (j + 1) = nI (j + 1))) (by omega) (show _ = sg 17 (j + 1) from rfl) ?_
    refine g_pure 5 (i' := 41) (lv' := [some (vR 16), some (vI (nI e)), some (vI (nI j))]) (st' := [vI (nI j + 2), vR 17, vI (sg 17 (j + 1)), vI (sg 17 j), vR 16]) rfl ?_
    refine gW_eq (lv' := [some (vR 16), some (vI (nI e)), some (vI (nI j))]) (st' := [vI (nI (j + 2)), vR 17, vI (sg 17 (j + 1)), vI (sg 17 j), vR 16]) rfl (by rw [(show (nI j + 2) = nI (j + 2) from ((g_add (rfl : nI j = nI j) (show (2 : Int32) = nI 2 from rfl))).trans (congrArg nI (by omega)))]) rfl ?_
    refine g_ald rfl (g_A (a := 17) (kd := 1) (n := 400) rfl (by decide)) (by decide) (show nI (j + 2) = nI (j + 2) from (rfl : nI (j + 2) = nI (j + 2))) (by omega) (show _ = sg 17 (j + 2) from rfl) ?_
    refine g_pure 1 (i' := 43) (lv' := [some (vR 16), some (vI (nI e)), some (vI (nI j))]) (st' := [vI (nI e), vI (sg 17 (j + 2)), vI (sg 17 (j + 1)), vI (sg 17 j), vR 16]) rfl ?_
    exact o2 h1

/-- an order keeps the clues below n -/
def ckP (T : Nat → Int32) (D n : Nat) (w : Nat → Nat) : Prop := ∀ k, k < n → (w (T (3 * k)).toNatClampNeg + D - w (T (3 * k + 1)).toNatClampNeg) % D = (T (3 * k + 2)).toNatClampNeg
theorem s_3 {X : Nat × (Nat → Int32)} {d : Nat} {p : Nat → Nat} {sg : Mg} {S T : Nat → Int32} {tl D : Nat} (hc : clQ S T tl sg) (eD : D = sn S 9) (h0 : 1 ≤ D) (h9 : D ≤ 9) : gF X (d + 4) 3 [vR 16, vI (nI D)] p sg (fun r => ∃ (s : Mg) (g' f' : Nat → Nat) (res : Bool), (∀ c, c ≠ 18 → c ≠ 19 → s c = sg c) ∧ gOK g' f' D ∧ grM g' f' D s ∧ (∀ w : Nat → Nat, (∀ x, x < D → w x < D) → ((gSol g' f' D w ∧ res = true) ↔ ckP T D (tl / 3) w)) ∧ r = gRv p s (if res = true then 1 else 0)) := by
  obtain ⟨c1, c2, c3, c4, c5⟩ := hc
  refine g_in (cd := k_3) (nL := 3) (rc := 1) rfl (g_A (a := 16) (kd := 0) (n := 0) rfl (by decide)) (g_c1 rfl) (b_3_0 (by omega) ?_)
  have key := g_upI (P := fun j => ∀ s, (∀ c, c ≠ 18 → c ≠ 19 → s c = sg c) → (∀ x, x < j → s 18 x = nI x ∧ s 19 x = nI 0) → gW X (d + 3) k_3 2 [some (vR 16), some (vI (nI D)), some (vI (nI j))] [] p s (fun r => ∃ (s : Mg) (g' f' : Nat → Nat) (res : Bool), (∀ c, c ≠ 18 → c ≠ 19 → s c = sg c) ∧ gOK g' f' D ∧ grM g' f' D s ∧ (∀ w : Nat → Nat, (∀ x, x < D → w x < D) → ((gSol g' f' D w ∧ res = true) ↔ ckP T D (tl / 3) w)) ∧ r = gRv p s (if res = true then 1 else 0))) (I := fun _ => True) (n := D) (a := 0) (by omega) trivial ?_ ?_
  · exact key sg (fun _ _ _ => rfl) (fun x hx => absurd hx (Nat.not_lt_zero _))
  · intro j _ hj _ ih s hs hx
    refine b_3_2 (by omega) (by omega) (fun h => by omega) (fun _ s2 e2 s3 e3 => ?_)
    refine ih trivial s3 (fun c c1 c2 => by rw [e3, mu_ne c2, e2, mu_ne c1]; exact hs c c1 c2) (fun x hx2 => ?_)
    by_cases e : x = j
    · subst e
      exact ⟨by rw [e3, mu_ne (by decide), e2, mu_self], by rw [e3, mu_self]; rfl⟩
    · exact ⟨by rw [e3, mu_ne (by decide), e2, mu_idx e]; exact (hx x (by omega)).1, by rw [e3, mu_idx e, e2, mu_ne (by decide)]; exact (hx x (by omega)).2⟩
  · intro _ s hs hx
    refine b_3_2 (by omega) (by omega) (fun _ => ?_) (fun h => by omega)
    refine g_pure 2 (i' := 19) (lv' := [some (vR 16), some (vI (nI D)), some (vI 0)]) (st' := []) rfl ?_
    have key := g_upI (P := fun k => ∀ s g f, (∀ c, c ≠ 18 → c ≠ 19 → s c = sg c) → gOK g f D → grM g f D s → (∀ w : Nat → Nat, (∀ x, x < D → w x < D) → (gSol g f D w ↔ ckP T D k w)) → gW X (d + 3) k_3 19 [some (vR 16), some (vI (nI D)), some (vI (nI (3 * k)))] [] p s (fun r => ∃ (s : Mg) (g' f' : Nat → Nat) (res : Bool), (∀ c, c ≠ 18 → c ≠ 19 → s c = sg c) ∧ gOK g' f' D ∧ grM g' f' D s ∧ (∀ w : Nat → Nat, (∀ x, x < D → w x < D) → ((gSol g' f' D w ∧ res = true) ↔ ckP T D (tl / 3) w)) ∧ r = gRv p s (if res = true then 1 else 0))) (I := fun _ => True) (n := tl / 3) (a := 0) (by omega) trivial ?_ ?_
    · exact key s (fun x => x) (fun _ => 0) hs (fun a ha => ⟨ha, show 0 < D by omega, rfl, rfl⟩) ⟨fun x hx2 => (hx x hx2).1, fun x hx2 => (hx x hx2).2⟩ (fun w hw => ⟨fun _ k hk => absurd hk (Nat.not_lt_zero _), fun _ a ha => by rw [Nat.add_zero, Nat.mod_eq_of_lt (hw a ha)]⟩)
    · intro k _ hk _ ih s g f hs hg hm hw
      have ih := ih trivial
      have o0 := okx_at (by omega) (c5 (3 * k) (by omega))
      have o1 := okx_at (by omega) (c5 (3 * k + 1) (by omega))
      have o2 := okx_at (by omega) (c5 (3 * k + 2) (by omega))
      have e17 : ∀ i, i < tl → s 17 i = T i := fun i hi => by rw [hs 17 (by decide) (by decide)]; exact c4 i hi
      have k16 : s 16 4 = nI tl := by rw [hs 16 (by decide) (by decide)]; exact c1
      refine b_3_19 c2 k16 (by omega) (by omega) (fun h => by omega) (fun _ => ?_)
      rw [e17 _ (by omega), e17 _ (by omega), e17 _ (by omega)]
      refine gW_eq (st' := [vI (nI D), vI (nI (T (3 * k + 2)).toNatClampNeg), vI (nI (T (3 * k + 1)).toNatClampNeg), vI (nI (T (3 * k)).toNatClampNeg), vR 16]) rfl (by rw [← o0.1, ← o1.1, ← o2.1]) rfl ?_
      refine g_calV rfl (args := [vR 16, vI (nI (T (3 * k)).toNatClampNeg), vI (nI (T (3 * k + 1)).toNatClampNeg), vI (nI (T (3 * k + 2)).toNatClampNeg), vI (nI D)]) (rest := []) rfl rfl (Nat.zero_le _) (s_4 (d := d) hg hm h0 h9 (by omega) (by omega) (by omega)) (fun q hq => ?_)
      obtain ⟨s2, g2, f2, res, t1, t2, t3, t4, rfl⟩ := hq
      refine gK_v ?_
      have hs2 : ∀ c, c ≠ 18 → c ≠ 19 → s2 c = sg c := fun c c1 c2 => (t1 c c1 c2).trans (hs c c1 c2)
      have up : ∀ w : Nat → Nat, (∀ x, x < D → w x < D) → ((gSol g2 f2 D w ∧ res = true) ↔ ckP T D (k + 1) w) := fun w hw2 => by
        rw [t4 w hw2, hw w hw2]
        constructor
        · intro ⟨u1, u2⟩ k2 hk2
          by_cases e : k2 = k
          · subst e; exact u2
          · exact u1 k2 (by omega)
        · intro u
          exact ⟨fun k2 hk2 => u k2 (by omega), u k (by omega)⟩
      refine g_if1 (i' := 47) (P := res = true) rfl rfl g_neB (fun hr => ?_) (fun hr => ?_)
      · refine g_pure 2 (i' := 19) (lv' := [some (vR 16), some (vI (nI D)), some (vI (nI (3 * k) + 3))]) (st' := []) rfl ?_
        refine gW_eq (lv' := [some (vR 16), some (vI (nI D)), some (vI (nI (3 * (k + 1))))]) (by rw [show 3 * (k + 1) = 3 * k + 3 by omega, ← nI_add]; rfl) rfl rfl ?_
        refine ih s2 g2 f2 hs2 t2 t3 (fun w hw2 => ?_)
        rw [← up w hw2]
        exact ⟨fun u => ⟨u, hr⟩, fun u => u.1⟩
      · refine g_pure 1 (i' := 46) (lv' := [some (vR 16), some (vI (nI D)), some (vI (nI (3 * k)))]) (st' := [vI 0]) rfl ?_
        refine g_bret rfl g_nar0 ⟨s2, g2, f2, false, hs2, t2, t3, fun w hw2 => ⟨fun u => absurd u.2 (by decide), fun u => absurd ((up w hw2).mpr (fun k2 hk2 => u k2 (by omega))).2 hr⟩, rfl⟩
    · intro _ s g f hs hg hm hw
      have k16 : s 16 4 = nI tl := by rw [hs 16 (by decide) (by decide)]; exact c1
      refine b_3_19 c2 k16 (by omega) (by omega) (fun _ => ⟨s, g, f, true, hs, hg, hm, fun w hw2 => by rw [← hw w hw2]; exact ⟨fun u => u.1, fun u => ⟨u, rfl⟩⟩, rfl⟩) (fun h => by omega)
