/-! RULES for methods that catch, and for the law's own loop: rows by their list, counts kept -/
def hL (X : Nat × (Nat → Int32)) (d : Nat) (cd : List am_CE) (hs : List (Nat × Nat × Nat)) (k : List am_CE) (lv : List (Option AV)) (st : List AV) (p : Nat → Nat) (sg : Mg) (kc ks : Nat) (Q : am_R → Prop) : Prop := ∃ r, am_Go X (am_Call X am_SL am_mt d) cd hs k lv st (gE p, sg) kc ks r ∧ Q r
def hN (X : Nat × (Nat → Int32)) (d : Nat) (cd : List am_CE) (hs : List (Nat × Nat × Nat)) (Q : am_R → Prop) : am_K := fun k' lv' st' M' kc' ks' => ∃ r, am_Go X (am_Call X am_SL am_mt d) cd hs k' lv' st' M' kc' ks' r ∧ Q r
section HH
variable {X : Nat × (Nat → Int32)} {d : Nat} {cd k : List am_CE} {hs : List (Nat × Nat × Nat)} {lv : List (Option AV)} {st : List AV} {p : Nat → Nat} {sg : Mg} {kc ks : Nat} {Q : am_R → Prop}
theorem h_stp {q : am_CE} (h : am_stp X am_SL (am_Call X am_SL am_mt d) cd hs k q lv st (gE p, sg) kc ks (hN X d cd hs Q) Q) : hL X d cd hs (q :: k) lv st p sg kc ks Q := by
  rcases am_stp_pick h with ⟨k', lv', st', M', kc', ks', ⟨r, h1, h2⟩, g⟩ | ⟨r', h1, g⟩
  · exact ⟨r, am_go (g _ _ h1), h2⟩
  · exact ⟨r', am_go (g _ _ rfl), h1⟩
theorem h_px_ok : ∀ (n : Nat) {k k' : List am_CE} {lv lv' : List (Option AV)} {st st' : List AV} {r : am_R}, g_px p sg cd n k lv st = some (k', lv', st') → am_Go X (am_Call X am_SL am_mt d) cd hs k' lv' st' (gE p, sg) kc ks r → am_Go X (am_Call X am_SL am_mt d) cd hs k lv st (gE p, sg) kc ks r
  | 0, _, _, _, _, _, _, _, h, g => by
    simp only [g_px, Option.some.injEq, Prod.mk.injEq] at h
    obtain ⟨rfl, rfl, rfl⟩ := h
    exact g
  | _ + 1, [], _, _, _, _, _, _, h, _ => by cases h
  | n + 1, q :: k, k', lv, lv', st, st', r, h, g => by
    simp only [g_px] at h
    split at h
    · rename_i k1 lv1 st1 e
      exact am_go (g_p1_ok e (h_px_ok n h g))
    · cases h
/-- n rows that need nothing -/
theorem h_pure (n : Nat) {k' : List am_CE} {lv' : List (Option AV)} {st' : List AV} (h : g_px p sg cd n k lv st = some (k', lv', st')) (g : hL X d cd hs k' lv' st' p sg kc ks Q) : hL X d cd hs k lv st p sg kc ks Q := by
  obtain ⟨r, h1, h2⟩ := g
  exact ⟨r, h_px_ok n h h1, h2⟩
/-- the script's j-th number -/
theorem h_sld {j pc nx r1 r2 : Nat} {x e : Int32} (he : e = nI j) (hj : j < X.1) (hX : X.1 < 2147483648) (g : hL X d cd hs k lv (vI (X.2 j) :: st) p sg kc ks Q) : hL X d cd hs ((pc, .iaload, nx, r1, r2, x) :: k) lv (vI e :: vX :: st) p sg kc ks Q := by
  obtain ⟨h1, h2⟩ := g_idx he hj hX
  refine h_stp ⟨h1, ?_⟩
  rw [h2]
  exact g
theorem h_slen {pc nx r1 r2 : Nat} {x : Int32} (g : hL X d cd hs k lv (vI (nI X.1) :: st) p sg kc ks Q) : hL X d cd hs ((pc, .arraylength, nx, r1, r2, x) :: k) lv (vX :: st) p sg kc ks Q := h_stp g
theorem h_if1 {c : ClassFile.Cond} {off : Int} {pc nx r1 r2 : Nat} {k' : List am_CE} {x a : Int32} {P : Prop} (ht : am_seek r1 cd = k') (hP : g_cd c a 0 ↔ P) (hA : P → hL X d cd hs k' lv st p sg kc ks Q) (hB : ¬ P → hL X d cd hs k lv st p sg kc ks Q) : hL X d cd hs ((pc, .ifCond c off, nx, r1, r2, x) :: k) lv (vI a :: st) p sg kc ks Q := by
  refine h_stp (g_am_if hP ?_ hB)
  rw [ht]
  exact hA
theorem h_if2 {c : ClassFile.Cond} {off : Int} {pc nx r1 r2 : Nat} {k' : List am_CE} {x a b : Int32} {P : Prop} (ht : am_seek r1 cd = k') (hP : g_cd c a b ↔ P) (hA : P → hL X d cd hs k' lv st p sg kc ks Q) (hB : ¬ P → hL X d cd hs k lv st p sg kc ks Q) : hL X d cd hs ((pc, .if_icmp c off, nx, r1, r2, x) :: k) lv (vI b :: vI a :: st) p sg kc ks Q := by
  refine h_stp (g_am_if hP ?_ hB)
  rw [ht]
  exact hA
theorem h_goto {off : Int} {pc nx r1 r2 : Nat} {k' : List am_CE} {x : Int32} (ht : am_seek r1 cd = k') (g : hL X d cd hs k' lv st p sg kc ks Q) : hL X d cd hs ((pc, .goto off, nx, r1, r2, x) :: k) lv st p sg kc ks Q := by
  refine h_stp ?_
  subst ht
  exact g
theorem h_i2l {pc nx r1 r2 : Nat} {x a : Int32} (g : hL X d cd hs k lv (vL a :: st) p sg kc ks Q) : hL X d cd hs ((pc, .i2l, nx, r1, r2, x) :: k) lv (vI a :: st) p sg kc ks Q := h_stp g
theorem h_lcst {pc nx r1 r2 : Nat} {x : Int32} {j : Fin 2} (g : hL X d cd hs k lv (vL x :: st) p sg kc ks Q) : hL X d cd hs ((pc, .lconst j, nx, r1, r2, x) :: k) lv st p sg kc ks Q := h_stp g
theorem h_lcmp {pc nx r1 r2 : Nat} {x a b : Int32} (g : hL X d cd hs k lv (vI (am_lcmp a b) :: st) p sg kc ks Q) : hL X d cd hs ((pc, .lcmp, nx, r1, r2, x) :: k) lv (vL b :: vL a :: st) p sg kc ks Q := h_stp g
theorem am_lcmp_self (a : Int32) : am_lcmp a a = 0 := by
  unfold am_lcmp
  rw [if_neg (fun h => by rw [Int32.lt_iff_toInt_lt] at h; omega), if_pos rfl]
/-- the law's long cell -/
theorem h_last {pc nx r1 r2 : Nat} {x v : Int32} (g : hL X d cd hs k lv st p (mu sg 900 0 v) kc ks Q) : hL X d cd hs ((pc, .lastore, nx, r1, r2, x) :: k) lv (vL v :: vI 0 :: vR 900 :: st) p sg kc ks Q := by
  obtain ⟨h1, h2⟩ := g_idx (e := 0) (k := 0) (n := 1) rfl (by decide) (by decide)
  refine h_stp ⟨1, g_A (a := 900) (kd := 4) (n := 1) rfl (by decide), h1, ?_⟩
  rw [h2]
  exact g
theorem h_lald {pc nx r1 r2 : Nat} {x : Int32} (g : hL X d cd hs k lv (vL (sg 900 0) :: st) p sg kc ks Q) : hL X d cd hs ((pc, .laload, nx, r1, r2, x) :: k) lv (vI 0 :: vR 900 :: st) p sg kc ks Q := by
  obtain ⟨h1, h2⟩ := g_idx (e := 0) (k := 0) (n := 1) rfl (by decide) (by decide)
  refine h_stp ⟨1, g_A (a := 900) (kd := 4) (n := 1) rfl (by decide), h1, ?_⟩
  rw [h2]
  exact g
theorem h_iret {pc nx r2 : Nat} {x v : Int32} (g : Q ((gE p, sg), .inl (some (vI v)), kc, ks)) : hL X d cd hs ((pc, .ireturn, nx, 0, r2, x) :: k) lv [vI v] p sg kc ks Q := h_stp ⟨rfl, trivial, g⟩
theorem h_bret {pc nx r2 : Nat} {x v : Int32} (hv : vp_nar .boolean v = v) (g : Q ((gE p, sg), .inl (some (vI v)), kc, ks)) : hL X d cd hs ((pc, .ireturn, nx, 2, r2, x) :: k) lv [vI v] p sg kc ks Q := h_stp ⟨rfl, hv, g⟩
theorem h_calV {pc nx y na j : Nat} {x : Int32} {args rest : List AV} {Q' : am_R → Prop} (hst : st = args.reverse ++ rest) (hl : args.length = na + 1) (hsm : (rest.map am_cat).sum ≤ 8) (hf : gF X d y args p sg Q') (g : ∀ r, Q' r → am_ret cd hs k lv rest kc ks (hN X d cd hs Q) Q r) : hL X d cd hs ((pc, .invokevirtual j, nx, na + 1, y, x) :: k) lv st p sg kc ks Q := by
  obtain ⟨r, h1, h2⟩ := hf
  subst hst
  have e1 : (args.reverse ++ rest).take (na + 1) = args.reverse := by rw [← hl]; simp
  have e2 : (args.reverse ++ rest).drop (na + 1) = rest := by rw [← hl]; simp
  refine h_stp ⟨by simp [← hl], by rw [e2]; exact hsm, r, ?_, ?_⟩
  · rw [e1, List.reverse_reverse]
    exact h1
  · rw [e2]
    exact g r h2
theorem h_calS {pc nx y na j : Nat} {x : Int32} {args rest : List AV} {Q' : am_R → Prop} (hst : st = args.reverse ++ rest) (hl : args.length = na + 1) (hsm : (rest.map am_cat).sum ≤ 8) (hf : gF X d y args p sg Q') (g : ∀ r, Q' r → am_ret cd hs k lv rest kc ks (hN X d cd hs Q) Q r) : hL X d cd hs ((pc, .invokestatic j, nx, na + 1, y, x) :: k) lv st p sg kc ks Q := by
  obtain ⟨r, h1, h2⟩ := hf
  subst hst
  have e1 : (args.reverse ++ rest).take (na + 1) = args.reverse := by rw [← hl]; simp
  have e2 : (args.reverse ++ rest).drop (na + 1) = rest := by rw [← hl]; simp
  refine h_stp ⟨by simp [← hl], by rw [e2]; exact hsm, r, ?_, ?_⟩
  · rw [e1, List.reverse_reverse]
    exact h1
  · rw [e2]
    exact g r h2
/-- a method that catches is entered -/
theorem h_in {y nL rc : Nat} {args : List AV} (hm : am_mt y = (cd, nL, rc, hs)) (hr : am_recv rc (gE p) args) (hc : ∀ v ∈ args, am_cat v = 1) (g : hL X d cd hs cd (am_lv nL args) [] p sg 0 0 Q) : gF X (d + 1) y args p sg Q := by
  obtain ⟨r, h1, h2⟩ := g
  refine ⟨r, ?_, h2⟩
  show am_recv (am_mt y).2.2.1 _ _ ∧ _
  rw [hm]
  exact ⟨hr, hc, h1⟩
theorem h_eq {lv' : List (Option AV)} {st' : List AV} {k' : List am_CE} (h0 : k = k') (h1 : lv = lv') (h2 : st = st') (g : hL X d cd hs k' lv' st' p sg kc ks Q) : hL X d cd hs k lv st p sg kc ks Q := by
  subst h0 h1 h2
  exact g
end HH
/-- jumps: over rows that lie before -/
theorem am_seek_app {t hi : Nat} {a b : List am_CE} (h : a.all (fun e => Nat.blt e.1 hi) = true) (ht : hi ≤ t) : am_seek t (a ++ b) = am_seek t b := by
  induction a with
  | nil => rfl
  | cons e a ih =>
    simp only [List.all_cons, Bool.and_eq_true] at h
    have h1 : e.1 < hi := by
      have := h.1
      have h2 := Nat.le_of_ble_eq_true this
      omega
    show (if e.1 = t then e :: (a ++ b) else am_seek t (a ++ b)) = _
    rw [if_neg (by omega)]
    exact ih h.2
theorem s_178 {X : Nat × (Nat → Int32)} {d : Nat} {p : Nat → Nat} {sg : Mg} : gF X (d + 1) 178 [vR 800] p sg (fun r => r = gRv p sg (sg 800 0)) := by
  refine g_in (cd := k_178) (nL := 1) (rc := 13) rfl (g_A (a := 800) (kd := 0) (n := 12) rfl (by decide)) (g_c1 rfl) ?_
  show gW X d k_178 0 [some (vR 800)] [] p sg _
  refine g_pure 2 (i' := 2) (lv' := [some (vR 800)]) (st' := [vI (sg 800 0)]) rfl ?_
  exact g_iret rfl rfl
