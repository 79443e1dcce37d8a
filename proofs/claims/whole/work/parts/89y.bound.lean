/-! TABLES: bind, walked (made by wip/whole/gen89y.py) -/
theorem b_4_0 {X : Nat × (Nat → Int32)} {d : Nat} {p : Nat → Nat} {sg : Mg} {Q : am_R → Prop} {oa ob ga gb : Nat} {a : Nat} {b : Nat} {c : Nat} {e : Nat} (u_a : a ≤ 8) (u_b : b ≤ 8) (u_c : c ≤ 8) (u_e : e ≤ 9) (h1 : sg 19 a = nI oa) (h2 : sg 19 b = nI ob) (h3 : sg 18 a = nI ga) (h4 : sg 18 b = nI gb) (u1 : oa < e) (u2 : ob < e) (u3 : ga ≤ 8) (u4 : gb ≤ 8) (u5 : 1 ≤ e)
    (o1 : (¬ ga = gb) → gW X (d + 2) k_4 36 [some (vR 16), some (vI (nI a)), some (vI (nI b)), some (vI (nI c)), some (vI (nI e)), some (vI (nI (((ob + c) + e - oa) % e))), some (vI (nI ga)), some (vI 0)] [] p sg Q)
    (o2 : (ga = gb) → (¬ ((ob + c) + e - oa) % e = 0) → Q (gRv p sg 0))
    (o3 : (ga = gb) → (((ob + c) + e - oa) % e = 0) → Q (gRv p sg 1)) :
    gW X (d + 2) k_4 0 [some (vR 16), some (vI (nI a)), some (vI (nI b)), some (vI (nI c)), some (vI (nI e)), none, none, none] [] p sg Q := by
  refine g_pure 3 (i' := 3) (lv' := [some (vR 16), some (vI (nI a)), some (vI (nI b)), some (vI (nI c)), some (vI (nI e)), none, none, none]) (st' := [vI (nI b), vR 19]) rfl ?_
  refine g_ald rfl (g_A (a := 19) (kd := 1) (n := 9) rfl (by decide)) (by decide) (show nI b = nI b from (rfl : nI b = nI b)) (by omega) (show _ = nI ob from h2) ?_
  refine g_pure 5 (i' := 9) (lv' := [some (vR 16), some (vI (nI a)), some (vI (nI b)), some (vI (nI c)), some (vI (nI e)), none, none, none]) (st' := [vI (nI a), vR 19, vI (nI ob + nI c)]) rfl ?_
  refine gW_eq (lv' := [some (vR 16), some (vI (nI a)), some (vI (nI b)), some (vI (nI c)), some (vI (nI e)), none, none, none]) (st' := [vI (nI a), vR 19, vI (nI (ob + c))]) rfl (by rw [(show (nI ob + nI c) = nI (ob + c) from ((g_add (rfl : nI ob = nI ob) (rfl : nI c = nI c))).trans (congrArg nI (by omega)))]) rfl ?_
  refine g_ald rfl (g_A (a := 19) (kd := 1) (n := 9) rfl (by decide)) (by decide) (show nI a = nI a from (rfl : nI a = nI a)) (by omega) (show _ = nI oa from h1) ?_
  refine g_pure 2 (i' := 12) (lv' := [some (vR 16), some (vI (nI a)), some (vI (nI b)), some (vI (nI c)), some (vI (nI e)), none, none, none]) (st' := [vI (nI e), vI (nI (ob + c) - nI oa)]) rfl ?_
  refine g_cS1 rfl (args := [vI (nI (ob + c) - nI oa), vI (nI e)]) (rest := []) rfl rfl rfl (s_314m (d := d + 1) (by omega) (by omega) (by omega) (by omega)) ?_
  have t1 := Nat.mod_lt ((ob + c) + e - oa) (y := e) (by omega)
  refine g_pure 4 (i' := 17) (lv' := [some (vR 16), some (vI (nI a)), some (vI (nI b)), some (vI (nI c)), some (vI (nI e)), some (vI (nI (((ob + c) + e - oa) % e))), none, none]) (st' := [vI (nI a), vR 18]) rfl ?_
  refine g_ald rfl (g_A (a := 18) (kd := 1) (n := 9) rfl (by decide)) (by decide) (show nI a = nI a from (rfl : nI a = nI a)) (by omega) (show _ = nI ga from h3) ?_
  refine g_pure 3 (i' := 21) (lv' := [some (vR 16), some (vI (nI a)), some (vI (nI b)), some (vI (nI c)), some (vI (nI e)), some (vI (nI (((ob + c) + e - oa) % e))), none, none]) (st' := [vI (nI b), vR 18, vI (nI ga)]) rfl ?_
  refine g_ald rfl (g_A (a := 18) (kd := 1) (n := 9) rfl (by decide)) (by decide) (show nI b = nI b from (rfl : nI b = nI b)) (by omega) (show _ = nI gb from h4) ?_
  refine g_if2 (i' := 29) (P := ¬ ga = gb) rfl rfl (g_neN (show nI ga = nI ga from (rfl : nI ga = nI ga)) (show nI gb = nI gb from (rfl : nI gb = nI gb)) (by omega) (by omega)) (fun h2 => ?_) (fun h2 => ?_)
  · refine g_pure 3 (i' := 32) (lv' := [some (vR 16), some (vI (nI a)), some (vI (nI b)), some (vI (nI c)), some (vI (nI e)), some (vI (nI (((ob + c) + e - oa) % e))), none, none]) (st' := [vI (nI a), vR 18]) rfl ?_
    refine g_ald rfl (g_A (a := 18) (kd := 1) (n := 9) rfl (by decide)) (by decide) (show nI a = nI a from (rfl : nI a = nI a)) (by omega) (show _ = nI ga from h3) ?_
    refine g_pure 3 (i' := 36) (lv' := [some (vR 16), some (vI (nI a)), some (vI (nI b)), some (vI (nI c)), some (vI (nI e)), some (vI (nI (((ob + c) + e - oa) % e))), some (vI (nI ga)), some (vI 0)]) (st' := []) rfl ?_
    exact o1 h2
  · have h2 := Classical.not_not.mp h2
    refine g_pure 1 (i' := 24) (lv' := [some (vR 16), some (vI (nI a)), some (vI (nI b)), some (vI (nI c)), some (vI (nI e)), some (vI (nI (((ob + c) + e - oa) % e))), none, none]) (st' := [vI (nI (((ob + c) + e - oa) % e))]) rfl ?_
    refine g_if1 (i' := 27) (P := ¬ ((ob + c) + e - oa) % e = 0) rfl rfl (g_neN (show nI (((ob + c) + e - oa) % e) = nI (((ob + c) + e - oa) % e) from (rfl : nI (((ob + c) + e - oa) % e) = nI (((ob + c) + e - oa) % e))) (show 0 = nI 0 from (show (0 : Int32) = nI 0 from rfl)) (by omega) (by omega)) (fun h3 => ?_) (fun h3 => ?_)
    · refine g_pure 1 (i' := 28) (lv' := [some (vR 16), some (vI (nI a)), some (vI (nI b)), some (vI (nI c)), some (vI (nI e)), some (vI (nI (((ob + c) + e - oa) % e))), none, none]) (st' := [vI 0]) rfl ?_
      refine g_bret rfl g_nar0 ?_
      exact o2 h2 h3
    · have h3 := Classical.not_not.mp h3
      refine g_pure 2 (i' := 28) (lv' := [some (vR 16), some (vI (nI a)), some (vI (nI b)), some (vI (nI c)), some (vI (nI e)), some (vI (nI (((ob + c) + e - oa) % e))), none, none]) (st' := [vI 1]) rfl ?_
      refine g_bret rfl g_nar1 ?_
      exact o3 h2 h3

theorem b_4_36 {X : Nat × (Nat → Int32)} {d : Nat} {p : Nat → Nat} {sg : Mg} {Q : am_R → Prop} {oj gj gb : Nat} {z1 : Option AV} {b : Nat} {z3 : Option AV} {e : Nat} {m : Nat} {u : Nat} {j : Nat} (u_b : b ≤ 8) (u_e : e ≤ 9) (u_m : m ≤ 8) (u_u : u ≤ 8) (u_j : j ≤ 9) (h1 : j < e → sg 19 j = nI oj) (h3 : j < e → sg 18 j = nI gj) (h4 : sg 18 b = nI gb) (u1 : oj ≤ 8) (u3 : gj ≤ 8) (u4 : gb ≤ 8) (u5 : 1 ≤ e)
    (o1 : (e ≤ j) → Q (gRv p sg 1))
    (o2 : (¬ (e ≤ j)) → (¬ gj = u) → gW X (d + 2) k_4 36 [some (vR 16), z1, some (vI (nI b)), z3, some (vI (nI e)), some (vI (nI m)), some (vI (nI u)), some (vI (nI (j + 1)))] [] p sg Q)
    (o3 : (¬ (e ≤ j)) → (gj = u) → ∀ s3 : Mg, s3 = mu sg 18 j (nI gb) → ¬ nI e = 0)
    (o4 : (¬ (e ≤ j)) → (gj = u) → ∀ s3 : Mg, s3 = mu sg 18 j (nI gb) → ∀ s4 : Mg, s4 = mu s3 19 j ((s3 19 j + nI m) - (s3 19 j + nI m) / nI e * nI e) → gW X (d + 2) k_4 36 [some (vR 16), z1, some (vI (nI b)), z3, some (vI (nI e)), some (vI (nI m)), some (vI (nI u)), some (vI (nI (j + 1)))] [] p s4 Q) :
    gW X (d + 2) k_4 36 [some (vR 16), z1, some (vI (nI b)), z3, some (vI (nI e)), some (vI (nI m)), some (vI (nI u)), some (vI (nI j))] [] p sg Q := by
  refine g_pure 2 (i' := 38) (lv' := [some (vR 16), z1, some (vI (nI b)), z3, some (vI (nI e)), some (vI (nI m)), some (vI (nI u)), some (vI (nI j))]) (st' := [vI (nI e), vI (nI j)]) rfl ?_
  refine g_if2 (i' := 67) (P := e ≤ j) rfl rfl (g_geN (show nI j = nI j from (rfl : nI j = nI j)) (show nI e = nI e from (rfl : nI e = nI e)) (by omega) (by omega)) (fun h1 => ?_) (fun h1 => ?_)
  · refine g_pure 1 (i' := 68) (lv' := [some (vR 16), z1, some (vI (nI b)), z3, some (vI (nI e)), some (vI (nI m)), some (vI (nI u)), some (vI (nI j))]) (st' := [vI 1]) rfl ?_
    refine g_bret rfl g_nar1 ?_
    exact o1 h1
  · refine g_pure 3 (i' := 42) (lv' := [some (vR 16), z1, some (vI (nI b)), z3, some (vI (nI e)), some (vI (nI m)), some (vI (nI u)), some (vI (nI j))]) (st' := [vI (nI j), vR 18]) rfl ?_
    refine g_ald rfl (g_A (a := 18) (kd := 1) (n := 9) rfl (by decide)) (by decide) (show nI j = nI j from (rfl : nI j = nI j)) (by omega) (show _ = nI gj from (h3 (by omega))) ?_
    refine g_pure 1 (i' := 44) (lv' := [some (vR 16), z1, some (vI (nI b)), z3, some (vI (nI e)), some (vI (nI m)), some (vI (nI u)), some (vI (nI j))]) (st' := [vI (nI u), vI (nI gj)]) rfl ?_
    refine g_if2 (i' := 65) (P := ¬ gj = u) rfl rfl (g_neN (show nI gj = nI gj from (rfl : nI gj = nI gj)) (show nI u = nI u from (rfl : nI u = nI u)) (by omega) (by omega)) (fun h2 => ?_) (fun h2 => ?_)
    · refine g_pure 2 (i' := 36) (lv' := [some (vR 16), z1, some (vI (nI b)), z3, some (vI (nI e)), some (vI (nI m)), some (vI (nI u)), some (vI (nI j + 1))]) (st' := []) rfl ?_
      refine gW_eq (lv' := [some (vR 16), z1, some (vI (nI b)), z3, some (vI (nI e)), some (vI (nI m)), some (vI (nI u)), some (vI (nI (j + 1)))]) (st' := []) (by rw [(show (nI j + 1) = nI (j + 1) from ((g_add (rfl : nI j = nI j) (show (1 : Int32) = nI 1 from rfl))).trans (congrArg nI (by omega)))]) rfl rfl ?_
      exact o2 h1 h2
    · have h2 := Classical.not_not.mp h2
      refine g_pure 6 (i' := 51) (lv' := [some (vR 16), z1, some (vI (nI b)), z3, some (vI (nI e)), some (vI (nI m)), some (vI (nI u)), some (vI (nI j))]) (st' := [vI (nI b), vR 18, vI (nI j), vR 18]) rfl ?_
      refine g_ald rfl (g_A (a := 18) (kd := 1) (n := 9) rfl (by decide)) (by decide) (show nI b = nI b from (rfl : nI b = nI b)) (by omega) (show _ = nI gb from h4) ?_
      refine g_ast rfl (g_A (a := 18) (kd := 1) (n := 9) rfl (by decide)) (by decide) (show nI j = nI j from (rfl : nI j = nI j)) (by omega) ?_
      refine g_setv (fun s3 es3 => ?_)
      refine g_pure 6 (i' := 59) (lv' := [some (vR 16), z1, some (vI (nI b)), z3, some (vI (nI e)), some (vI (nI m)), some (vI (nI u)), some (vI (nI j))]) (st' := [vI (nI j), vR 19, vI (nI j), vR 19]) rfl ?_
      refine g_ald rfl (g_A (a := 19) (kd := 1) (n := 9) rfl (by decide)) (by decide) (show nI j = nI j from (rfl : nI j = nI j)) (by omega) (show _ = s3 19 j from rfl) ?_
      refine g_pure 3 (i' := 63) (lv' := [some (vR 16), z1, some (vI (nI b)), z3, some (vI (nI e)), some (vI (nI m)), some (vI (nI u)), some (vI (nI j))]) (st' := [vI (nI e), vI (s3 19 j + nI m), vI (nI j), vR 19]) rfl ?_
      refine g_rem rfl (o3 h1 h2 s3 es3) ?_
      refine g_ast rfl (g_A (a := 19) (kd := 1) (n := 9) rfl (by decide)) (by decide) (show nI j = nI j from (rfl : nI j = nI j)) (by omega) ?_
      refine g_setv (fun s4 es4 => ?_)
      refine g_pure 2 (i' := 36) (lv' := [some (vR 16), z1, some (vI (nI b)), z3, some (vI (nI e)), some (vI (nI m)), some (vI (nI u)), some (vI (nI j + 1))]) (st' := []) rfl ?_
      refine gW_eq (lv' := [some (vR 16), z1, some (vI (nI b)), z3, some (vI (nI e)), some (vI (nI m)), some (vI (nI u)), some (vI (nI (j + 1)))]) (st' := []) (by rw [(show (nI j + 1) = nI (j + 1) from ((g_add (rfl : nI j = nI j) (show (1 : Int32) = nI 1 from rfl))).trans (congrArg nI (by omega)))]) rfl rfl ?_
      exact o4 h1 h2 s3 es3 s4 es4

def grM (g f : Nat → Nat) (D : Nat) (s : Mg) : Prop := (∀ x, x < D → s 18 x = nI (g x)) ∧ ∀ x, x < D → s 19 x = nI (f x)
/-- one clue bound: what is left, and whether any order fits -/
def bdR (g f : Nat → Nat) (D a b c : Nat) (p : Nat → Nat) (sg : Mg) (r : am_R) : Prop := ∃ (s : Mg) (g' f' : Nat → Nat) (res : Bool), (∀ c, c ≠ 18 → c ≠ 19 → s c = sg c) ∧ gOK g' f' D ∧ grM g' f' D s ∧ (∀ w : Nat → Nat, (∀ x, x < D → w x < D) → ((gSol g' f' D w ∧ res = true) ↔ gSol g f D w ∧ (w a + D - w b) % D = c)) ∧ r = gRv p s (if res = true then 1 else 0)
theorem rem_sm : ∀ D, D < 10 → ∀ x, x < D → ∀ m, m < D → (nI x + nI m) - (nI x + nI m) / nI D * nI D = nI ((x + m) % D) := by decide +kernel
theorem s_4 {X : Nat × (Nat → Int32)} {d : Nat} {p : Nat → Nat} {sg : Mg} {g f : Nat → Nat} {D a b c : Nat} (h : gOK g f D) (hm : grM g f D sg) (h0 : 1 ≤ D) (h9 : D ≤ 9) (ha : a < D) (hb : b < D) (hc : c < D) : gF X (d + 3) 4 [vR 16, vI (nI a), vI (nI b), vI (nI c), vI (nI D)] p sg (bdR g f D a b c p sg) := by
  have hga := h a ha
  have hgb := h b hb
  have hmo := Nat.mod_lt (f b + c + D - f a) (show 0 < D by omega)
  refine g_in (cd := k_4) (nL := 8) (rc := 1) rfl (g_A (a := 16) (kd := 0) (n := 0) rfl (by decide)) (g_c1 rfl) (b_4_0 (by omega) (by omega) (by omega) h9 (hm.2 a ha) (hm.2 b hb) (hm.1 a ha) (hm.1 b hb) (by omega) (by omega) (by omega) (by omega) h0 (fun hne => ?_) (fun he hz => ?_) (fun he hz => ?_))
  · have key := g_upI (P := fun j => ∀ s, (∀ c, c ≠ 18 → c ≠ 19 → s c = sg c) → (∀ x, x < D → s 18 x = nI (if x < j then gG g a b x else g x)) → (∀ x, x < D → s 19 x = nI (if x < j then gF2 g f D a ((f b + c + D - f a) % D) x else f x)) → gW X (d + 2) k_4 36 [some (vR 16), some (vI (nI a)), some (vI (nI b)), some (vI (nI c)), some (vI (nI D)), some (vI (nI ((f b + c + D - f a) % D))), some (vI (nI (g a))), some (vI (nI j))] [] p s (bdR g f D a b c p sg)) (I := fun _ => True) (n := D) (a := 0) (by omega) trivial ?_ ?_
    · exact key sg (fun _ _ _ => rfl) (fun x hx => by rw [if_neg (Nat.not_lt_zero _)]; exact hm.1 x hx) (fun x hx => by rw [if_neg (Nat.not_lt_zero _)]; exact hm.2 x hx)
    · intro j _ hj _ ih s hs e1 e2
      have ih := ih trivial
      have hgj := h j hj
      have k1 := e1 j hj
      have k2 := e2 j hj
      rw [if_neg (Nat.lt_irrefl _)] at k1 k2
      have k3 : s 18 b = nI (g b) := by
        rw [e1 b hb]
        split
        · rw [show gG g a b b = g b from if_neg (fun e => hne e.symm)]
        · rfl
      have nx : ∀ (P : Nat → Nat) (Q : Nat → Nat) x, ¬ x = j → (if x < j + 1 then P x else Q x) = (if x < j then P x else Q x) := fun P Q x hx => by
        by_cases c : x < j
        · rw [if_pos c, if_pos (by omega)]
        · rw [if_neg c, if_neg (by omega)]
      refine b_4_36 (by omega) h9 (by omega) (by omega) (by omega) (fun _ => k2) (fun _ => k1) k3 (by omega) (by omega) (by omega) h0 (fun h => by omega) (fun _ hx => ?_) (fun _ _ _ _ hx => ?_) (fun _ hx s3 e3 s4 e4 => ?_)
      · refine ih s hs (fun x hx2 => ?_) (fun x hx2 => ?_)
        · by_cases e : x = j
          · subst e; rw [if_pos (Nat.lt_succ_self _), k1, show gG g a b x = g x from if_neg hx]
          · rw [nx _ _ x e]; exact e1 x hx2
        · by_cases e : x = j
          · subst e; rw [if_pos (Nat.lt_succ_self _), k2, show gF2 g f D a ((f b + c + D - f a) % D) x = f x from if_neg hx]
          · rw [nx _ _ x e]; exact e2 x hx2
      · rw [show (0 : Int32) = nI 0 from rfl, nI_eq (by omega) (by omega)] at hx
        omega
      · refine ih s4 (fun c c1 c2 => by rw [e4, mu_ne c2, e3, mu_ne c1]; exact hs c c1 c2) (fun x hx2 => ?_) (fun x hx2 => ?_)
        · rw [e4, mu_ne (by decide), e3]
          by_cases e : x = j
          · subst e; rw [mu_self, if_pos (Nat.lt_succ_self _), show gG g a b x = g b from if_pos hx]
          · rw [mu_idx e, nx _ _ x e]; exact e1 x hx2
        · rw [e4]
          by_cases e : x = j
          · subst e
            rw [mu_self, if_pos (Nat.lt_succ_self _), show s3 19 x = s 19 x by rw [e3, mu_ne (by decide)], k2, rem_sm D (by omega) _ hgj.2.1 _ hmo, show gF2 g f D a ((f b + c + D - f a) % D) x = (f x + (f b + c + D - f a) % D) % D from if_pos hx]
          · rw [mu_idx e, nx _ _ x e, e3, mu_ne (by decide)]; exact e2 x hx2
    · intro _ s hs e1 e2
      have k3 : s 18 b = nI (g b) := by
        rw [e1 b hb, if_pos hb, show gG g a b b = g b from if_neg (fun e => hne e.symm)]
      refine b_4_36 (oj := 0) (gj := 0) (by omega) h9 (by omega) (by omega) (by omega) (fun h => absurd h (Nat.lt_irrefl _)) (fun h => absurd h (Nat.lt_irrefl _)) k3 (by omega) (by omega) (by omega) h0 (fun _ => ?_) (fun h => by omega) (fun h => by omega) (fun h => by omega)
      exact ⟨s, _, _, true, hs, h.bind h0 ha hb hne _, ⟨fun x hx => by rw [e1 x hx, if_pos hx], fun x hx => by rw [e2 x hx, if_pos hx]⟩, fun w hw => by rw [gSol.bind h h0 h9 ha hb hc hne hw]; exact ⟨fun g => g.1, fun g => ⟨g, rfl⟩⟩, rfl⟩
  · refine ⟨sg, g, f, false, fun _ _ _ => rfl, h, hm, fun w hw => ⟨fun g => absurd g.2 (by decide), fun g2 => absurd ((gSol.same h h0 h9 ha hb hc he hw g2.1).mp g2.2) hz⟩, rfl⟩
  · refine ⟨sg, g, f, true, fun _ _ _ => rfl, h, hm, fun w hw => ⟨fun g2 => ⟨g2.1, (gSol.same h h0 h9 ha hb hc he hw g2.1).mpr hz⟩, fun g2 => ⟨g2.1, rfl⟩⟩, rfl⟩
