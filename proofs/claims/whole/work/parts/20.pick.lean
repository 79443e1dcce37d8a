/-! A ROW GOES ONE WAY: what it needs of what comes next is one thing; so runs add up, whatever their lengths (made by wip/whole/gen22.py) -/
def am_pk (S : am_K → (am_R → Prop) → Prop) (Next : am_K) (End : am_R → Prop) : Prop := (∃ k' lv' st' M' kc' ks', Next k' lv' st' M' kc' ks' ∧ ∀ (N' : am_K) (E' : am_R → Prop), N' k' lv' st' M' kc' ks' → S N' E') ∨ ∃ r' : am_R, End r' ∧ ∀ (N' : am_K) (E' : am_R → Prop), E' r' → S N' E'
theorem am_pk_n {S : am_K → (am_R → Prop) → Prop} {Next : am_K} {End : am_R → Prop} {k' : List am_CE} {lv' : List (Option AV)} {st' : List AV} {M' : am_M} {kc ks : Nat} (h : Next k' lv' st' M' kc ks) (g : ∀ (N' : am_K) (E' : am_R → Prop), N' k' lv' st' M' kc ks → S N' E') : am_pk S Next End := Or.inl ⟨k', lv', st', M', kc, ks, h, g⟩
theorem am_pk_e {S : am_K → (am_R → Prop) → Prop} {Next : am_K} {End : am_R → Prop} {r' : am_R} (h : End r') (g : ∀ (N' : am_K) (E' : am_R → Prop), E' r' → S N' E') : am_pk S Next End := Or.inr ⟨r', h, g⟩
theorem am_pk_if {S : am_K → (am_R → Prop) → Prop} {Next : am_K} {End : am_R → Prop} {cd : ClassFile.Cond} {x y : Int32} {k1 k2 : List am_CE} {lv' : List (Option AV)} {st' : List AV} {M' : am_M} {kc ks : Nat} (h : am_if cd x y (Next k1 lv' st' M' kc ks) (Next k2 lv' st' M' kc ks)) (g : ∀ (N' : am_K) (E' : am_R → Prop), am_if cd x y (N' k1 lv' st' M' kc ks) (N' k2 lv' st' M' kc ks) → S N' E') : am_pk S Next End := by
  cases cd
  case eq => by_cases e : x = y; exact am_pk_n (h.1 e) (fun N' E' h' => g N' E' ⟨fun _ => h', fun c => absurd e c⟩); exact am_pk_n (h.2 e) (fun N' E' h' => g N' E' ⟨fun c => absurd c e, fun _ => h'⟩)
  case ne => by_cases e : x = y; exact am_pk_n (h.2 e) (fun N' E' h' => g N' E' ⟨fun c => absurd e c, fun _ => h'⟩); exact am_pk_n (h.1 e) (fun N' E' h' => g N' E' ⟨fun _ => h', fun c => absurd c e⟩)
  case lt => by_cases e : x < y; exact am_pk_n (h.1 e) (fun N' E' h' => g N' E' ⟨fun _ => h', fun c => absurd e c⟩); exact am_pk_n (h.2 e) (fun N' E' h' => g N' E' ⟨fun c => absurd c e, fun _ => h'⟩)
  case ge => by_cases e : y ≤ x; exact am_pk_n (h.1 e) (fun N' E' h' => g N' E' ⟨fun _ => h', fun c => absurd e c⟩); exact am_pk_n (h.2 e) (fun N' E' h' => g N' E' ⟨fun c => absurd c e, fun _ => h'⟩)
  case gt => by_cases e : y < x; exact am_pk_n (h.1 e) (fun N' E' h' => g N' E' ⟨fun _ => h', fun c => absurd e c⟩); exact am_pk_n (h.2 e) (fun N' E' h' => g N' E' ⟨fun c => absurd c e, fun _ => h'⟩)
  case le => by_cases e : x ≤ y; exact am_pk_n (h.1 e) (fun N' E' h' => g N' E' ⟨fun _ => h', fun c => absurd e c⟩); exact am_pk_n (h.2 e) (fun N' E' h' => g N' E' ⟨fun c => absurd c e, fun _ => h'⟩)
theorem am_pk_call {C : Nat → List AV → am_M → am_R → Prop} {full : List am_CE} {hs : List (Nat × Nat × Nat)} {na y : Nat} {k : List am_CE} {lv : List (Option AV)} {st : List AV} {M : am_M} {kc ks : Nat} {Next : am_K} {End : am_R → Prop} (h : am_call C full hs na y k lv st M kc ks Next End) : am_pk (am_call C full hs na y k lv st M kc ks) Next End := by
  obtain ⟨h1, h2, r, hr, h3⟩ := h
  unfold am_ret at h3
  split at h3
  · rename_i v hv
    exact am_pk_n h3 (fun N' E' h' => ⟨h1, h2, r, hr, by unfold am_ret; rw [hv]; exact h'⟩)
  · rename_i E hv
    split at h3
    · exact am_pk_e h3 (fun N' E' h' => ⟨h1, h2, r, hr, by unfold am_ret; rw [hv]; exact h'⟩)
    · rename_i h0
      split at h3
      · rename_i h hh
        refine am_pk_n h3 (fun N' E' h' => ⟨h1, h2, r, hr, ?_⟩)
        unfold am_ret
        rw [hv]
        cases hs with
        | nil => exact absurd rfl h0
        | cons q hs => simp only [hh]; exact h'
      · exact h3.elim
set_option maxHeartbeats 4000000 in
theorem am_stp_pick {X : Nat × (Nat → Int32)} {SL : Nat → List Int32} {C : Nat → List AV → am_M → am_R → Prop} {full : List am_CE} {hs : List (Nat × Nat × Nat)} {k : List am_CE} {q : am_CE} {lv : List (Option AV)} {st : List AV} {M : am_M} {kc ks : Nat} {Next : am_K} {End : am_R → Prop}
    (hst : am_stp X SL C full hs k q lv st M kc ks Next End) : am_pk (am_stp X SL C full hs k q lv st M kc ks) Next End := by
  obtain ⟨pc, i, nx, r1, r2, x⟩ := q
  cases i
  case iadd =>
    obtain ⟨b, s1, rfl, h1⟩ := am_pI_elim hst
    obtain ⟨a, s2, rfl, h2⟩ := am_pI_elim h1
    exact am_pk_n h2 (fun N' E' h' => h')
  case isub =>
    obtain ⟨b, s1, rfl, h1⟩ := am_pI_elim hst
    obtain ⟨a, s2, rfl, h2⟩ := am_pI_elim h1
    exact am_pk_n h2 (fun N' E' h' => h')
  case imul =>
    obtain ⟨b, s1, rfl, h1⟩ := am_pI_elim hst
    obtain ⟨a, s2, rfl, h2⟩ := am_pI_elim h1
    exact am_pk_n h2 (fun N' E' h' => h')
  case iand =>
    obtain ⟨b, s1, rfl, h1⟩ := am_pI_elim hst
    obtain ⟨a, s2, rfl, h2⟩ := am_pI_elim h1
    exact am_pk_n h2 (fun N' E' h' => h')
  case ior =>
    obtain ⟨b, s1, rfl, h1⟩ := am_pI_elim hst
    obtain ⟨a, s2, rfl, h2⟩ := am_pI_elim h1
    exact am_pk_n h2 (fun N' E' h' => h')
  case ixor =>
    obtain ⟨b, s1, rfl, h1⟩ := am_pI_elim hst
    obtain ⟨a, s2, rfl, h2⟩ := am_pI_elim h1
    exact am_pk_n h2 (fun N' E' h' => h')
  case ishl =>
    obtain ⟨b, s1, rfl, h1⟩ := am_pI_elim hst
    obtain ⟨a, s2, rfl, h2⟩ := am_pI_elim h1
    exact am_pk_n h2 (fun N' E' h' => h')
  case ishr =>
    obtain ⟨b, s1, rfl, h1⟩ := am_pI_elim hst
    obtain ⟨a, s2, rfl, h2⟩ := am_pI_elim h1
    exact am_pk_n h2 (fun N' E' h' => h')
  case iushr =>
    obtain ⟨b, s1, rfl, h1⟩ := am_pI_elim hst
    obtain ⟨a, s2, rfl, h2⟩ := am_pI_elim h1
    exact am_pk_n h2 (fun N' E' h' => h')
  case idiv =>
    obtain ⟨b, s1, rfl, h1⟩ := am_pI_elim hst
    obtain ⟨a, s2, rfl, h2⟩ := am_pI_elim h1
    exact am_pk_n h2.2 (fun N' E' h' => ⟨h2.1, h'⟩)
  case irem =>
    obtain ⟨b, s1, rfl, h1⟩ := am_pI_elim hst
    obtain ⟨a, s2, rfl, h2⟩ := am_pI_elim h1
    exact am_pk_n h2.2 (fun N' E' h' => ⟨h2.1, h'⟩)
  case ineg =>
    obtain ⟨b, s1, rfl, h1⟩ := am_pI_elim hst
    exact am_pk_n h1 (fun N' E' h' => h')
  case i2b =>
    obtain ⟨b, s1, rfl, h1⟩ := am_pI_elim hst
    exact am_pk_n h1 (fun N' E' h' => h')
  case i2c =>
    obtain ⟨b, s1, rfl, h1⟩ := am_pI_elim hst
    exact am_pk_n h1 (fun N' E' h' => h')
  case i2l =>
    obtain ⟨b, s1, rfl, h1⟩ := am_pI_elim hst
    exact am_pk_n h1 (fun N' E' h' => h')
  case lcmp =>
    obtain ⟨b, s1, rfl, h1⟩ := am_pL_elim hst
    obtain ⟨a, s2, rfl, h2⟩ := am_pL_elim h1
    exact am_pk_n h2 (fun N' E' h' => h')
  case dup =>
    obtain ⟨v, s1, rfl, hc1, h1⟩ := am_p1_elim hst
    exact am_pk_n h1 (fun N' E' h' => ⟨hc1, h'⟩)
  case pop =>
    obtain ⟨v, s1, rfl, hc1, h1⟩ := am_p1_elim hst
    exact am_pk_n h1 (fun N' E' h' => ⟨hc1, h'⟩)
  case dup2 =>
    obtain ⟨v, s1, rfl, hc1, h1⟩ := am_p1_elim hst
    obtain ⟨w, s2, rfl, hc2, h2⟩ := am_p1_elim h1
    exact am_pk_n h2 (fun N' E' h' => ⟨hc1, hc2, h'⟩)
  case iconst n =>
    exact am_pk_n (show Next k lv (vI x :: st) M kc ks from hst) (fun N' E' h' => h')
  case bipush n =>
    exact am_pk_n (show Next k lv (vI x :: st) M kc ks from hst) (fun N' E' h' => h')
  case sipush n =>
    exact am_pk_n (show Next k lv (vI x :: st) M kc ks from hst) (fun N' E' h' => h')
  case lconst n =>
    exact am_pk_n (show Next k lv (vL x :: st) M kc ks from hst) (fun N' E' h' => h')
  case iload_n j =>
    simp only [am_stp] at hst
    split at hst
    · rename_i v hv
      exact am_pk_n hst (fun N' E' h' => by simp only [am_stp, hv]; exact h')
    · exact hst.elim
  case iload j =>
    simp only [am_stp] at hst
    split at hst
    · rename_i v hv
      exact am_pk_n hst (fun N' E' h' => by simp only [am_stp, hv]; exact h')
    · exact hst.elim
  case aload_n j =>
    simp only [am_stp] at hst
    split at hst
    · rename_i v hv
      exact am_pk_n hst (fun N' E' h' => by simp only [am_stp, hv]; exact h')
    · exact hst.elim
  case aload j =>
    simp only [am_stp] at hst
    split at hst
    · rename_i v hv
      exact am_pk_n hst (fun N' E' h' => by simp only [am_stp, hv]; exact h')
    · exact hst.elim
  case iinc j n =>
    simp only [am_stp] at hst
    split at hst
    · rename_i v hv
      exact am_pk_n hst (fun N' E' h' => by simp only [am_stp, hv]; exact h')
    · exact hst.elim
  case istore_n j =>
    obtain ⟨v, s1, rfl, h1⟩ := am_pI_elim hst
    exact am_pk_n h1 (fun N' E' h' => h')
  case istore j =>
    obtain ⟨v, s1, rfl, h1⟩ := am_pI_elim hst
    exact am_pk_n h1 (fun N' E' h' => h')
  case astore_n j =>
    simp only [am_stp] at hst
    split at hst
    · rename_i v s1
      exact am_pk_n hst.2 (fun N' E' h' => ⟨hst.1, h'⟩)
    · exact hst.elim
  case astore j =>
    simp only [am_stp] at hst
    split at hst
    · rename_i v s1
      exact am_pk_n hst.2 (fun N' E' h' => ⟨hst.1, h'⟩)
    · exact hst.elim
  case goto off =>
    exact am_pk_n (show Next (am_seek r1 full) lv st M kc ks from hst) (fun N' E' h' => h')
  case ifCond cd off =>
    obtain ⟨a, s1, rfl, h1⟩ := am_pI_elim hst
    exact am_pk_if h1 (fun N' E' h' => h')
  case if_icmp cd off =>
    obtain ⟨b, s1, rfl, h1⟩ := am_pI_elim hst
    obtain ⟨a, s2, rfl, h2⟩ := am_pI_elim h1
    exact am_pk_if h2 (fun N' E' h' => h')
  case tableswitch dfl lo hi offs =>
    obtain ⟨a, s1, rfl, h1⟩ := am_pI_elim hst
    by_cases h : a.toInt < lo ∨ hi < a.toInt
    · exact am_pk_n (h1.1 h) (fun N' E' h' => ⟨fun _ => h', fun h9 => absurd h h9⟩)
    · exact am_pk_n (h1.2 h) (fun N' E' h' => ⟨fun h9 => absurd h9 h, fun _ => h'⟩)
  case getfield j =>
    obtain ⟨a, s1, rfl, ha, h1⟩ := am_pR_elim hst
    split at h1
    · rename_i hx
      obtain ⟨z, hz, h2⟩ := h1
      exact am_pk_n h2 (fun N' E' h' => ⟨ha, by simp only [hx]; exact ⟨_, hz, h'⟩⟩)
    · rename_i hx
      exact am_pk_n h1 (fun N' E' h' => ⟨ha, by split <;> first | exact h' | (rename_i h9; exact absurd h9 hx)⟩)
  case putfield j =>
    obtain ⟨v, s0, rfl, h0⟩ := am_pI_elim hst
    obtain ⟨a, s1, rfl, ha, hf, h1⟩ := am_pR_elim h0
    exact am_pk_n h1 (fun N' E' h' => ⟨ha, hf, h'⟩)
  case iaload =>
    obtain ⟨i, s1, rfl, h1⟩ := am_pI_elim hst
    split at h1
    · rename_i a s2
      obtain ⟨n, ha, hin, h2⟩ := h1
      exact am_pk_n h2 (fun N' E' h' => ⟨n, ha, hin, h'⟩)
    · exact am_pk_n h1.2 (fun N' E' h' => ⟨h1.1, h'⟩)
    · exact h1.elim
  case baload =>
    obtain ⟨i, s1, rfl, h1⟩ := am_pI_elim hst
    obtain ⟨a, s2, rfl, kd, n, hkd, ha, hin, h2⟩ := am_pR_elim h1
    exact am_pk_n h2 (fun N' E' h' => ⟨kd, n, hkd, ha, hin, h'⟩)
  case laload =>
    obtain ⟨i, s1, rfl, h1⟩ := am_pI_elim hst
    obtain ⟨a, s2, rfl, n, ha, hin, h2⟩ := am_pR_elim h1
    exact am_pk_n h2 (fun N' E' h' => ⟨n, ha, hin, h'⟩)
  case aaload =>
    obtain ⟨i, s1, rfl, h1⟩ := am_pI_elim hst
    obtain ⟨a, s2, rfl, kd, n, q, hkd, ha, hin, hq, h2⟩ := am_pR_elim h1
    exact am_pk_n h2 (fun N' E' h' => ⟨kd, n, _, hkd, ha, hin, hq, h'⟩)
  case iastore =>
    obtain ⟨v, s0, rfl, h0⟩ := am_pI_elim hst
    obtain ⟨i, s1, rfl, h1⟩ := am_pI_elim h0
    obtain ⟨a, s2, rfl, n, ha, hin, h2⟩ := am_pR_elim h1
    exact am_pk_n h2 (fun N' E' h' => ⟨n, ha, hin, h'⟩)
  case bastore =>
    obtain ⟨v, s0, rfl, h0⟩ := am_pI_elim hst
    obtain ⟨i, s1, rfl, h1⟩ := am_pI_elim h0
    obtain ⟨a, s2, rfl, n, hin, h2⟩ := am_pR_elim h1
    rcases h2 with h2 | h2
    · exact am_pk_n h2.2 (fun N' E' h' => ⟨n, hin, Or.inl ⟨h2.1, h'⟩⟩)
    · exact am_pk_n h2.2 (fun N' E' h' => ⟨n, hin, Or.inr ⟨h2.1, h'⟩⟩)
  case lastore =>
    obtain ⟨v, s0, rfl, h0⟩ := am_pL_elim hst
    obtain ⟨i, s1, rfl, h1⟩ := am_pI_elim h0
    obtain ⟨a, s2, rfl, n, ha, hin, h2⟩ := am_pR_elim h1
    exact am_pk_n h2 (fun N' E' h' => ⟨n, ha, hin, h'⟩)
  case aastore =>
    obtain ⟨v, s0, rfl, h0⟩ := am_pR_elim hst
    obtain ⟨i, s1, rfl, h1⟩ := am_pI_elim h0
    obtain ⟨a, s2, rfl, n, hv, ha, hin, h2⟩ := am_pR_elim h1
    exact am_pk_n h2 (fun N' E' h' => ⟨n, hv, ha, hin, h'⟩)
  case arraylength =>
    simp only [am_stp] at hst
    split at hst
    · obtain ⟨kd, n, h0, h6, ha, h2⟩ := hst
      exact am_pk_n h2 (fun N' E' h' => ⟨kd, n, h0, h6, ha, h'⟩)
    · exact am_pk_n hst (fun N' E' h' => h')
    · exact hst.elim
  case ldc j =>
    cases r1 with
    | zero => exact am_pk_n (show Next k lv (vI x :: st) M kc ks from hst) (fun N' E' h' => h')
    | succ r1 => exact am_pk_n (show Next k lv (vS r2 :: st) M kc ks from hst) (fun N' E' h' => h')
  case ldc_w j =>
    cases r1 with
    | zero => exact am_pk_n (show Next k lv (vI x :: st) M kc ks from hst) (fun N' E' h' => h')
    | succ r1 => exact am_pk_n (show Next k lv (vS r2 :: st) M kc ks from hst) (fun N' E' h' => h')
  case invokevirtual j =>
    cases r1 with
    | zero =>
      simp only [am_stp] at hst
      split at hst
      · exact am_pk_n hst.2.2 (fun N' E' h' => ⟨hst.1, hst.2.1, h'⟩)
      · exact am_pk_n hst.2.2.2 (fun N' E' h' => ⟨hst.1, hst.2.1, hst.2.2.1, h'⟩)
      · exact hst.elim
    | succ r1 => exact am_pk_call hst
  case invokestatic j =>
    cases r1 with
    | zero =>
      obtain ⟨n, s1, rfl, h1⟩ := am_pI_elim hst
      obtain ⟨dp, s2, rfl, h2⟩ := am_pI_elim h1
      obtain ⟨b, s3, rfl, h3⟩ := am_pR_elim h2
      obtain ⟨sp, s4, rfl, h4⟩ := am_pI_elim h3
      obtain ⟨a, s5, rfl, n0, n1, g1, g2, g3, g4, g5, g6, g7, g8, h5⟩ := am_pR_elim h4
      exact am_pk_n h5 (fun N' E' h' => ⟨n0, n1, g1, g2, g3, g4, g5, g6, g7, g8, h'⟩)
    | succ r1 => exact am_pk_call hst
  case new j =>
    exact am_pk_e hst.2.2 (fun N' E' h' => ⟨hst.1, hst.2.1, h'⟩)
  case ireturn =>
    obtain ⟨v, s1, rfl, rfl, hf, h1⟩ := am_pI_elim hst
    exact am_pk_e h1 (fun N' E' h' => ⟨rfl, hf, h'⟩)
  case return_ =>
    obtain ⟨rfl, h1⟩ := hst
    exact am_pk_e h1 (fun N' E' h' => ⟨rfl, h'⟩)
  all_goals exact hst.elim
theorem am_stp_mono {X : Nat × (Nat → Int32)} {SL : Nat → List Int32} {C : Nat → List AV → am_M → am_R → Prop} {full : List am_CE} {hs : List (Nat × Nat × Nat)} {k : List am_CE} {q : am_CE} {lv : List (Option AV)} {st : List AV} {M : am_M} {kc ks : Nat} {Next N' : am_K} {End E' : am_R → Prop} (hst : am_stp X SL C full hs k q lv st M kc ks Next End)
    (hN : ∀ k' lv' st' M' kc' ks', Next k' lv' st' M' kc' ks' → N' k' lv' st' M' kc' ks') (hE : ∀ r, End r → E' r) : am_stp X SL C full hs k q lv st M kc ks N' E' := by
  rcases am_stp_pick hst with ⟨k', lv', st', M', kc', ks', h, g⟩ | ⟨r', h, g⟩
  · exact g _ _ (hN _ _ _ _ _ _ h)
  · exact g _ _ (hE _ h)
/-- a run of some length -/
def am_Go (X : Nat × (Nat → Int32)) (C : Nat → List AV → am_M → am_R → Prop) (full : List am_CE) (hs : List (Nat × Nat × Nat)) (k : List am_CE) (lv : List (Option AV)) (st : List AV) (M : am_M) (kc ks : Nat) (r : am_R) : Prop := ∃ n, am_Run X am_SL C full hs n k lv st M kc ks r
theorem am_go {X : Nat × (Nat → Int32)} {C : Nat → List AV → am_M → am_R → Prop} {full : List am_CE} {hs : List (Nat × Nat × Nat)} {k : List am_CE} {q : am_CE} {lv : List (Option AV)} {st : List AV} {M : am_M} {kc ks : Nat} {r : am_R} (hst : am_stp X am_SL C full hs k q lv st M kc ks (fun k' lv' st' M' kc' ks' => am_Go X C full hs k' lv' st' M' kc' ks' r) (fun r' => r' = r)) : am_Go X C full hs (q :: k) lv st M kc ks r := by
  rcases am_stp_pick hst with ⟨k', lv', st', M', kc', ks', ⟨n, h⟩, g⟩ | ⟨r', h, g⟩
  · exact ⟨n + 1, g _ _ h⟩
  · exact ⟨1, g _ _ h⟩
