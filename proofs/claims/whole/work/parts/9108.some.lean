/-! WHAT A ROW MAKES only grows; and runs of any length -/
def am_some (kc ks : Nat) (Next : am_K) (End : am_R → Prop) : Prop := (∃ k' lv' st' M' kc' ks', kc ≤ kc' ∧ ks ≤ ks' ∧ Next k' lv' st' M' kc' ks') ∨ ∃ r' : am_R, kc ≤ r'.2.2.1 ∧ ks ≤ r'.2.2.2 ∧ End r'
theorem am_some_n {kc ks : Nat} {Next : am_K} {End : am_R → Prop} {k' : List am_CE} {lv' : List (Option AV)} {st' : List AV} {M' : am_M} (h : Next k' lv' st' M' kc ks) : am_some kc ks Next End := Or.inl ⟨k', lv', st', M', kc, ks, Nat.le_refl _, Nat.le_refl _, h⟩
theorem am_some_if {kc ks : Nat} {Next : am_K} {End : am_R → Prop} {cd : ClassFile.Cond} {x y : Int32} {k1 k2 : List am_CE} {lv' : List (Option AV)} {st' : List AV} {M' : am_M} (h : am_if cd x y (Next k1 lv' st' M' kc ks) (Next k2 lv' st' M' kc ks)) : am_some kc ks Next End := by
  cases cd
  case eq => by_cases e : x = y; exact am_some_n (h.1 e); exact am_some_n (h.2 e)
  case ne => by_cases e : x = y; exact am_some_n (h.2 e); exact am_some_n (h.1 e)
  case lt => by_cases e : x < y; exact am_some_n (h.1 e); exact am_some_n (h.2 e)
  case ge => by_cases e : y ≤ x; exact am_some_n (h.1 e); exact am_some_n (h.2 e)
  case gt => by_cases e : y < x; exact am_some_n (h.1 e); exact am_some_n (h.2 e)
  case le => by_cases e : x ≤ y; exact am_some_n (h.1 e); exact am_some_n (h.2 e)
theorem am_some_ret {full : List am_CE} {hs : List (Nat × Nat × Nat)} {k : List am_CE} {lv : List (Option AV)} {rest : List AV} {kc ks : Nat} {Next : am_K} {End : am_R → Prop} {r : am_R} (h : am_ret full hs k lv rest kc ks Next End r) : am_some kc ks Next End := by
  unfold am_ret at h
  split at h
  · exact Or.inl ⟨_, _, _, _, _, _, Nat.le_add_right _ _, Nat.le_add_right _ _, h⟩
  · split at h
    · exact Or.inr ⟨_, Nat.le_add_right _ _, Nat.le_add_right _ _, h⟩
    · split at h
      · exact Or.inl ⟨_, _, _, _, _, _, Nat.le_add_right _ _, Nat.le_add_right _ _, h⟩
      · exact h.elim
set_option maxHeartbeats 4000000 in
theorem am_stp_some {X : Nat × (Nat → Int32)} {SL : Nat → List Int32} {C : Nat → List AV → am_M → am_R → Prop} {full : List am_CE} {hs : List (Nat × Nat × Nat)} {k : List am_CE} {q : am_CE} {lv : List (Option AV)} {st : List AV} {M : am_M} {kc ks : Nat} {Next : am_K} {End : am_R → Prop}
    (hst : am_stp X SL C full hs k q lv st M kc ks Next End) : am_some kc ks Next End := by
  obtain ⟨pc, i, nx, r1, r2, x⟩ := q
  cases i
  case iadd =>
    obtain ⟨b, s1, e1, h1⟩ := am_pI_elim hst
    obtain ⟨a, s2, e2, h2⟩ := am_pI_elim h1
    exact am_some_n h2
  case isub =>
    obtain ⟨b, s1, e1, h1⟩ := am_pI_elim hst
    obtain ⟨a, s2, e2, h2⟩ := am_pI_elim h1
    exact am_some_n h2
  case imul =>
    obtain ⟨b, s1, e1, h1⟩ := am_pI_elim hst
    obtain ⟨a, s2, e2, h2⟩ := am_pI_elim h1
    exact am_some_n h2
  case iand =>
    obtain ⟨b, s1, e1, h1⟩ := am_pI_elim hst
    obtain ⟨a, s2, e2, h2⟩ := am_pI_elim h1
    exact am_some_n h2
  case ior =>
    obtain ⟨b, s1, e1, h1⟩ := am_pI_elim hst
    obtain ⟨a, s2, e2, h2⟩ := am_pI_elim h1
    exact am_some_n h2
  case ixor =>
    obtain ⟨b, s1, e1, h1⟩ := am_pI_elim hst
    obtain ⟨a, s2, e2, h2⟩ := am_pI_elim h1
    exact am_some_n h2
  case ishl =>
    obtain ⟨b, s1, e1, h1⟩ := am_pI_elim hst
    obtain ⟨a, s2, e2, h2⟩ := am_pI_elim h1
    exact am_some_n h2
  case ishr =>
    obtain ⟨b, s1, e1, h1⟩ := am_pI_elim hst
    obtain ⟨a, s2, e2, h2⟩ := am_pI_elim h1
    exact am_some_n h2
  case iushr =>
    obtain ⟨b, s1, e1, h1⟩ := am_pI_elim hst
    obtain ⟨a, s2, e2, h2⟩ := am_pI_elim h1
    exact am_some_n h2
  case idiv =>
    obtain ⟨b, s1, e1, h1⟩ := am_pI_elim hst
    obtain ⟨a, s2, e2, h2⟩ := am_pI_elim h1
    exact am_some_n h2.2
  case irem =>
    obtain ⟨b, s1, e1, h1⟩ := am_pI_elim hst
    obtain ⟨a, s2, e2, h2⟩ := am_pI_elim h1
    exact am_some_n h2.2
  case ineg =>
    obtain ⟨b, s1, e1, h1⟩ := am_pI_elim hst
    exact am_some_n h1
  case i2b =>
    obtain ⟨b, s1, e1, h1⟩ := am_pI_elim hst
    exact am_some_n h1
  case i2c =>
    obtain ⟨b, s1, e1, h1⟩ := am_pI_elim hst
    exact am_some_n h1
  case i2l =>
    obtain ⟨b, s1, e1, h1⟩ := am_pI_elim hst
    exact am_some_n h1
  case lcmp =>
    obtain ⟨b, s1, e1, h1⟩ := am_pL_elim hst
    obtain ⟨a, s2, e2, h2⟩ := am_pL_elim h1
    exact am_some_n h2
  case dup =>
    obtain ⟨v, s1, e1, hc1, h1⟩ := am_p1_elim hst
    exact am_some_n h1
  case pop =>
    obtain ⟨v, s1, e1, hc1, h1⟩ := am_p1_elim hst
    exact am_some_n h1
  case dup2 =>
    obtain ⟨v, s1, e1, hc1, h1⟩ := am_p1_elim hst
    obtain ⟨w, s2, e2, hc2, h2⟩ := am_p1_elim h1
    exact am_some_n h2
  case iconst n =>
    exact am_some_n hst
  case bipush n =>
    exact am_some_n hst
  case sipush n =>
    exact am_some_n hst
  case lconst n =>
    exact am_some_n hst
  case iload_n j =>
    simp only [am_stp] at hst
    split at hst
    · exact am_some_n hst
    · exact hst.elim
  case iload j =>
    simp only [am_stp] at hst
    split at hst
    · exact am_some_n hst
    · exact hst.elim
  case aload_n j =>
    simp only [am_stp] at hst
    split at hst
    · exact am_some_n hst
    · exact hst.elim
  case aload j =>
    simp only [am_stp] at hst
    split at hst
    · exact am_some_n hst
    · exact hst.elim
  case istore_n j =>
    obtain ⟨v, s1, e1, h1⟩ := am_pI_elim hst
    exact am_some_n h1
  case istore j =>
    obtain ⟨v, s1, e1, h1⟩ := am_pI_elim hst
    exact am_some_n h1
  case astore_n j =>
    simp only [am_stp] at hst
    split at hst
    · exact am_some_n hst.2
    · exact hst.elim
  case astore j =>
    simp only [am_stp] at hst
    split at hst
    · exact am_some_n hst.2
    · exact hst.elim
  case iinc j n =>
    simp only [am_stp] at hst
    split at hst
    · exact am_some_n hst
    · exact hst.elim
  case goto off =>
    exact am_some_n hst
  case ifCond cd off =>
    obtain ⟨a, s1, e1, h1⟩ := am_pI_elim hst
    exact am_some_if h1
  case if_icmp cd off =>
    obtain ⟨b, s1, e1, h1⟩ := am_pI_elim hst
    obtain ⟨a, s2, e2, h2⟩ := am_pI_elim h1
    exact am_some_if h2
  case tableswitch dfl lo hi offs =>
    obtain ⟨a, s1, e1, h1⟩ := am_pI_elim hst
    by_cases h : a.toInt < lo ∨ hi < a.toInt
    · exact am_some_n (h1.1 h)
    · exact am_some_n (h1.2 h)
  case getfield j =>
    obtain ⟨a, s1, e1, ha, h1⟩ := am_pR_elim hst
    split at h1
    · obtain ⟨z, hz, h2⟩ := h1
      exact am_some_n h2
    · exact am_some_n h1
  case putfield j =>
    obtain ⟨v, s0, e0, h0⟩ := am_pI_elim hst
    obtain ⟨a, s1, e1, ha, hf, h1⟩ := am_pR_elim h0
    exact am_some_n h1
  case iaload =>
    obtain ⟨i, s1, e1, h1⟩ := am_pI_elim hst
    split at h1
    · obtain ⟨n, ha, hin, h2⟩ := h1
      exact am_some_n h2
    · exact am_some_n h1.2
    · exact h1.elim
  case baload =>
    obtain ⟨i, s1, e1, h1⟩ := am_pI_elim hst
    obtain ⟨a, s2, e2, kd, n, hkd, ha, hin, h2⟩ := am_pR_elim h1
    exact am_some_n h2
  case laload =>
    obtain ⟨i, s1, e1, h1⟩ := am_pI_elim hst
    obtain ⟨a, s2, e2, n, ha, hin, h2⟩ := am_pR_elim h1
    exact am_some_n h2
  case aaload =>
    obtain ⟨i, s1, e1, h1⟩ := am_pI_elim hst
    obtain ⟨a, s2, e2, kd, n, q, hkd, ha, hin, hq, h2⟩ := am_pR_elim h1
    exact am_some_n h2
  case iastore =>
    obtain ⟨v, s0, e0, h0⟩ := am_pI_elim hst
    obtain ⟨i, s1, e1, h1⟩ := am_pI_elim h0
    obtain ⟨a, s2, e2, n, ha, hin, h2⟩ := am_pR_elim h1
    exact am_some_n h2
  case bastore =>
    obtain ⟨v, s0, e0, h0⟩ := am_pI_elim hst
    obtain ⟨i, s1, e1, h1⟩ := am_pI_elim h0
    obtain ⟨a, s2, e2, n, hin, h2⟩ := am_pR_elim h1
    rcases h2 with h2 | h2
    · exact am_some_n h2.2
    · exact am_some_n h2.2
  case lastore =>
    obtain ⟨v, s0, e0, h0⟩ := am_pL_elim hst
    obtain ⟨i, s1, e1, h1⟩ := am_pI_elim h0
    obtain ⟨a, s2, e2, n, ha, hin, h2⟩ := am_pR_elim h1
    exact am_some_n h2
  case aastore =>
    obtain ⟨v, s0, e0, h0⟩ := am_pR_elim hst
    obtain ⟨i, s1, e1, h1⟩ := am_pI_elim h0
    obtain ⟨a, s2, e2, n, hv, ha, hin, h2⟩ := am_pR_elim h1
    exact am_some_n h2
  case arraylength =>
    simp only [am_stp] at hst
    split at hst
    · obtain ⟨kd, n, h0, h6, ha, h2⟩ := hst
      exact am_some_n h2
    · exact am_some_n hst
    · exact hst.elim
  case ldc j =>
    cases r1 with
    | zero => exact am_some_n (show Next k lv (vI x :: st) M kc ks from hst)
    | succ r1 => exact am_some_n (show Next k lv (vS r2 :: st) M kc ks from hst)
  case ldc_w j =>
    cases r1 with
    | zero => exact am_some_n (show Next k lv (vI x :: st) M kc ks from hst)
    | succ r1 => exact am_some_n (show Next k lv (vS r2 :: st) M kc ks from hst)
  case invokevirtual j =>
    cases r1 with
    | zero =>
      simp only [am_stp] at hst
      split at hst
      · exact am_some_n hst.2.2
      · exact am_some_n hst.2.2.2
      · exact hst.elim
    | succ r1 =>
      obtain ⟨-, -, r, -, h⟩ := hst
      exact am_some_ret h
  case invokestatic j =>
    cases r1 with
    | zero =>
      obtain ⟨n, s1, e1, h1⟩ := am_pI_elim hst
      obtain ⟨dp, s2, e2, h2⟩ := am_pI_elim h1
      obtain ⟨b, s3, e3, h3⟩ := am_pR_elim h2
      obtain ⟨sp, s4, e4, h4⟩ := am_pI_elim h3
      obtain ⟨a, s5, e5, n0, n1, _, _, _, _, _, _, _, _, h5⟩ := am_pR_elim h4
      exact am_some_n h5
    | succ r1 =>
      obtain ⟨-, -, r, -, h⟩ := hst
      exact am_some_ret h
  case new j =>
    obtain ⟨-, -, h⟩ := hst
    exact Or.inr ⟨_, Nat.le_add_right _ _, Nat.le_add_right _ _, h⟩
  case ireturn =>
    obtain ⟨v, s1, e1, -, -, h1⟩ := am_pI_elim hst
    exact Or.inr ⟨_, Nat.le_refl _, Nat.le_refl _, h1⟩
  case return_ =>
    exact Or.inr ⟨_, Nat.le_refl _, Nat.le_refl _, hst.2⟩
  all_goals exact hst.elim
theorem am_run_ne {X : Nat × (Nat → Int32)} {SL : Nat → List Int32} {C : Nat → List AV → am_M → am_R → Prop} {full : List am_CE} {hs : List (Nat × Nat × Nat)} {n : Nat} {k : List am_CE} {lv : List (Option AV)} {st : List AV} {M : am_M} {kc ks : Nat} {r : am_R} (h : am_Run X SL C full hs n k lv st M kc ks r) : k ≠ [] := by
  rintro rfl
  cases n <;> exact h
theorem am_run_mono {X : Nat × (Nat → Int32)} {SL : Nat → List Int32} {C : Nat → List AV → am_M → am_R → Prop} {full : List am_CE} {hs : List (Nat × Nat × Nat)} {r : am_R} : ∀ {n : Nat} {k : List am_CE} {lv : List (Option AV)} {st : List AV} {M : am_M} {kc ks : Nat}, am_Run X SL C full hs n k lv st M kc ks r → kc ≤ r.2.2.1 ∧ ks ≤ r.2.2.2
  | 0, _, _, _, _, _, _, h => h.elim
  | _ + 1, [], _, _, _, _, _, h => h.elim
  | n + 1, e :: k, lv, st, M, kc, ks, h => by
    rcases am_stp_some h with ⟨k', lv', st', M', kc', ks', h1, h2, h3⟩ | ⟨r', h1, h2, h3⟩
    · have h4 := am_run_mono h3
      omega
    · have h3 : r' = r := h3
      subst h3
      exact ⟨h1, h2⟩
