/-! THE SAME UNDER ANOTHER NAMING OF THE ADDRESSES (made by wip/whole/gen22.py) -/
def am_rv (ρ : Nat → Nat) (v : AV) : AV := match v with
  | .inl x => .inl x
  | .inr w => .inr (match w with
    | .inl a => .inl (ρ a)
    | .inr z => .inr z)
def am_ren (ρ iv : Nat → Nat) (M : am_M) : am_M := ((none, M.1.2.1.map ρ, fun c => if ρ (iv c) = c then ((M.1.2.2 (iv c)).1, (M.1.2.2 (iv c)).2.1, fun i => ((M.1.2.2 (iv c)).2.2 i).map ρ) else (9, 0, fun _ => none)), fun c => if ρ (iv c) = c then M.2 (iv c) else fun _ => 0)
def am_renR (ρ iv : Nat → Nat) (r : am_R) : am_R := (am_ren ρ iv r.1, (match r.2.1 with
  | .inl v => .inl (v.map (am_rv ρ))
  | .inr e => .inr e), r.2.2.1, r.2.2.2)
def am_rl (ρ : Nat → Nat) (lv : List (Option AV)) : List (Option AV) := lv.map (Option.map (am_rv ρ))
section AMRN
variable {ρ iv : Nat → Nat}
theorem am_rv_cat {v : AV} : am_cat (am_rv ρ v) = am_cat v := by
  rcases v with x | a | k | x | u <;> rfl
theorem am_rv_sum {st : List AV} : ((st.map (am_rv ρ)).map am_cat).sum = (st.map am_cat).sum := by
  rw [List.map_map]
  congr 1
  exact List.map_congr_left (fun v _ => am_rv_cat)
theorem am_rl_get {lv : List (Option AV)} {i : Nat} {v : AV} (h : lv.getD i none = some v) : (am_rl ρ lv).getD i none = some (am_rv ρ v) := by
  unfold am_rl
  rw [List.getD_eq_getElem?_getD] at h ⊢
  rw [List.getElem?_map]
  cases e : lv[i]? with
  | none => rw [e] at h; cases h
  | some o => rw [e] at h; simp only [Option.getD_some] at h; subst h; rfl
theorem am_rl_set {lv : List (Option AV)} {i : Nat} {o : Option AV} : am_rl ρ (lv.set i o) = (am_rl ρ lv).set i (o.map (am_rv ρ)) := List.map_set
theorem am_rS (hi : ∀ a, iv (ρ a) = a) {M : am_M} (a : Nat) : (am_ren ρ iv M).1.2.2 (ρ a) = ((M.1.2.2 a).1, (M.1.2.2 a).2.1, fun i => ((M.1.2.2 a).2.2 i).map ρ) := by
  show (if ρ (iv (ρ a)) = ρ a then _ else _) = _
  rw [hi, if_pos rfl]
theorem am_rA (hi : ∀ a, iv (ρ a) = a) {M : am_M} {a kd n : Nat} (h : am_A M.1 a kd n) : am_A (am_ren ρ iv M).1 (ρ a) kd n := by
  refine ⟨List.mem_map_of_mem h.1, ?_, ?_⟩
  · rw [am_rS hi]; exact h.2.1
  · rw [am_rS hi]; exact h.2.2
theorem am_rP (hi : ∀ a, iv (ρ a) = a) {M : am_M} {a i q : Nat} (h : (M.1.2.2 a).2.2 i = some q) : ((am_ren ρ iv M).1.2.2 (ρ a)).2.2 i = some (ρ q) := by
  rw [am_rS hi]
  show ((M.1.2.2 a).2.2 i).map ρ = some (ρ q)
  rw [h]; rfl
theorem am_rM (hi : ∀ a, iv (ρ a) = a) {M : am_M} (a : Nat) : (am_ren ρ iv M).2 (ρ a) = M.2 a := by
  show (if ρ (iv (ρ a)) = ρ a then M.2 (iv (ρ a)) else fun _ => 0) = M.2 a
  rw [hi, if_pos rfl]
theorem am_rup (hi : ∀ a, iv (ρ a) = a) {f : Nat → Nat → Int32} {a : Nat} {g : Nat → Int32} : (fun c => if ρ (iv c) = c then va_up f a g (iv c) else fun _ => 0) = va_up (fun c => if ρ (iv c) = c then f (iv c) else fun _ => 0) (ρ a) g := by
  funext c
  by_cases h : c = ρ a
  · subst h
    simp only [hi, va_up, if_true]
  · by_cases h2 : ρ (iv c) = c
    · have h3 : ¬ iv c = a := fun h3 => h (by rw [← h3]; exact h2.symm)
      simp only [va_up, h, h2, h3, if_true, if_false]
    · simp only [va_up, h, h2, if_false]
theorem am_r_set (hi : ∀ a, iv (ρ a) = a) {M : am_M} {a i : Nat} {x : Int32} : am_ren ρ iv (am_set M a i x) = am_set (am_ren ρ iv M) (ρ a) i x := by
  show (_, _) = (_, _)
  refine Prod.ext rfl ?_
  show (fun c => if ρ (iv c) = c then va_up M.2 a (upd (M.2 a) i x) (iv c) else fun _ => 0) = va_up (am_ren ρ iv M).2 (ρ a) (upd ((am_ren ρ iv M).2 (ρ a)) i x)
  rw [am_rup hi, am_rM hi]
  rfl
theorem am_r_row (hi : ∀ a, iv (ρ a) = a) {M : am_M} {a : Nat} {f : Nat → Int32} : am_ren ρ iv (am_row M a f) = am_row (am_ren ρ iv M) (ρ a) f := by
  refine Prod.ext rfl ?_
  show (fun c => if ρ (iv c) = c then va_up M.2 a f (iv c) else fun _ => 0) = va_up (am_ren ρ iv M).2 (ρ a) f
  rw [am_rup hi]
  rfl
def am_pkR (ρ iv : Nat → Nat) (S : am_K → (am_R → Prop) → Prop) (Next : am_K) (End : am_R → Prop) : Prop := (∃ k' lv' st' M' kc' ks', Next k' lv' st' M' kc' ks' ∧ ∀ (N' : am_K) (E' : am_R → Prop), N' k' (am_rl ρ lv') (st'.map (am_rv ρ)) (am_ren ρ iv M') kc' ks' → S N' E') ∨ ∃ r' : am_R, End r' ∧ ∀ (N' : am_K) (E' : am_R → Prop), E' (am_renR ρ iv r') → S N' E'
theorem am_rv_opt {v : Option AV} : v.toList.map (am_rv ρ) = (v.map (am_rv ρ)).toList := by cases v <;> rfl
theorem am_r_ptr (hi : ∀ a, iv (ρ a) = a) {M : am_M} {a i q : Nat} : am_ren ρ iv (am_ptr M a i q) = am_ptr (am_ren ρ iv M) (ρ a) i (ρ q) := by
  refine Prod.ext (Prod.ext rfl (Prod.ext rfl ?_)) rfl
  funext c
  by_cases h : c = ρ a
  · subst h
    simp only [am_ptr, am_ren, va_up, hi, if_true]
    refine Prod.ext rfl (Prod.ext rfl ?_)
    funext j
    by_cases hj : j = i
    · simp [va_up, hj]
    · simp [va_up, hj]
  · by_cases h2 : ρ (iv c) = c
    · have h3 : ¬ iv c = a := fun h3 => h (by rw [← h3]; exact h2.symm)
      simp only [am_ptr, am_ren, va_up, h, h2, h3, if_true, if_false]
    · simp only [am_ptr, am_ren, va_up, h, h2, if_false]
theorem am_pk_nR {S : am_K → (am_R → Prop) → Prop} {Next : am_K} {End : am_R → Prop} {k' : List am_CE} {lv' : List (Option AV)} {st' : List AV} {M' : am_M} {kc ks : Nat} (h : Next k' lv' st' M' kc ks) (g : ∀ (N' : am_K) (E' : am_R → Prop), N' k' (am_rl ρ lv') (st'.map (am_rv ρ)) (am_ren ρ iv M') kc ks → S N' E') : am_pkR ρ iv S Next End := Or.inl ⟨k', lv', st', M', kc, ks, h, g⟩
theorem am_pk_eR {S : am_K → (am_R → Prop) → Prop} {Next : am_K} {End : am_R → Prop} {r' : am_R} (h : End r') (g : ∀ (N' : am_K) (E' : am_R → Prop), E' (am_renR ρ iv r') → S N' E') : am_pkR ρ iv S Next End := Or.inr ⟨r', h, g⟩
theorem am_pk_ifR {S : am_K → (am_R → Prop) → Prop} {Next : am_K} {End : am_R → Prop} {cd : ClassFile.Cond} {x y : Int32} {k1 k2 : List am_CE} {lv' : List (Option AV)} {st' : List AV} {M' : am_M} {kc ks : Nat} (h : am_if cd x y (Next k1 lv' st' M' kc ks) (Next k2 lv' st' M' kc ks)) (g : ∀ (N' : am_K) (E' : am_R → Prop), am_if cd x y (N' k1 (am_rl ρ lv') (st'.map (am_rv ρ)) (am_ren ρ iv M') kc ks) (N' k2 (am_rl ρ lv') (st'.map (am_rv ρ)) (am_ren ρ iv M') kc ks) → S N' E') : am_pkR ρ iv S Next End := by
  cases cd
  case eq => by_cases e : x = y; exact am_pk_nR (h.1 e) (fun N' E' h' => g N' E' ⟨fun _ => h', fun c => absurd e c⟩); exact am_pk_nR (h.2 e) (fun N' E' h' => g N' E' ⟨fun c => absurd c e, fun _ => h'⟩)
  case ne => by_cases e : x = y; exact am_pk_nR (h.2 e) (fun N' E' h' => g N' E' ⟨fun c => absurd e c, fun _ => h'⟩); exact am_pk_nR (h.1 e) (fun N' E' h' => g N' E' ⟨fun _ => h', fun c => absurd c e⟩)
  case lt => by_cases e : x < y; exact am_pk_nR (h.1 e) (fun N' E' h' => g N' E' ⟨fun _ => h', fun c => absurd e c⟩); exact am_pk_nR (h.2 e) (fun N' E' h' => g N' E' ⟨fun c => absurd c e, fun _ => h'⟩)
  case ge => by_cases e : y ≤ x; exact am_pk_nR (h.1 e) (fun N' E' h' => g N' E' ⟨fun _ => h', fun c => absurd e c⟩); exact am_pk_nR (h.2 e) (fun N' E' h' => g N' E' ⟨fun c => absurd c e, fun _ => h'⟩)
  case gt => by_cases e : y < x; exact am_pk_nR (h.1 e) (fun N' E' h' => g N' E' ⟨fun _ => h', fun c => absurd e c⟩); exact am_pk_nR (h.2 e) (fun N' E' h' => g N' E' ⟨fun c => absurd c e, fun _ => h'⟩)
  case le => by_cases e : x ≤ y; exact am_pk_nR (h.1 e) (fun N' E' h' => g N' E' ⟨fun _ => h', fun c => absurd e c⟩); exact am_pk_nR (h.2 e) (fun N' E' h' => g N' E' ⟨fun c => absurd c e, fun _ => h'⟩)
theorem am_pk_callR {C C' : Nat → List AV → am_M → am_R → Prop} {full : List am_CE} {hs : List (Nat × Nat × Nat)} {na y : Nat} {k : List am_CE} {lv : List (Option AV)} {st : List AV} {M : am_M} {kc ks : Nat} {Next : am_K} {End : am_R → Prop} (hC : ∀ y av M r, C y av M r → C' y (av.map (am_rv ρ)) (am_ren ρ iv M) (am_renR ρ iv r)) (h : am_call C full hs na y k lv st M kc ks Next End) : am_pkR ρ iv (am_call C' full hs na y k (am_rl ρ lv) (st.map (am_rv ρ)) (am_ren ρ iv M) kc ks) Next End := by
  obtain ⟨h1, h2, r, hr, h3⟩ := h
  have g1 : na ≤ (st.map (am_rv ρ)).length := by simpa using h1
  have g2 : (((st.map (am_rv ρ)).drop na).map am_cat).sum ≤ 8 := by
    rw [← List.map_drop, am_rv_sum]
    exact h2
  have g3 : C' y ((st.map (am_rv ρ)).take na).reverse (am_ren ρ iv M) (am_renR ρ iv r) := by
    rw [← List.map_take, ← List.map_reverse]
    exact hC _ _ _ _ hr
  unfold am_ret at h3
  split at h3
  · rename_i v hv
    refine am_pk_nR h3 (fun N' E' h' => ⟨g1, g2, _, g3, ?_⟩)
    unfold am_ret am_renR
    simp only [hv]
    rw [← List.map_drop, ← am_rv_opt, ← List.map_append]
    exact h'
  · rename_i E hv
    split at h3
    · refine am_pk_eR h3 (fun N' E' h' => ⟨g1, g2, _, g3, ?_⟩)
      unfold am_ret am_renR
      simp only [hv]
      exact h'
    · rename_i h0
      split at h3
      · rename_i h hh
        refine am_pk_nR h3 (fun N' E' h' => ⟨g1, g2, _, g3, ?_⟩)
        rw [am_rl_set] at h'
        unfold am_ret am_renR
        simp only [hv]
        cases hs with
        | nil => exact absurd rfl h0
        | cons q hs => simp only [hh]; exact h'
      · exact h3.elim
set_option maxHeartbeats 4000000 in
theorem am_stp_ren (hi : ∀ a, iv (ρ a) = a) {X : Nat × (Nat → Int32)} {SL : Nat → List Int32} {C : Nat → List AV → am_M → am_R → Prop} {full : List am_CE} {hs : List (Nat × Nat × Nat)} {k : List am_CE} {q : am_CE} {lv : List (Option AV)} {st : List AV} {M : am_M} {kc ks : Nat} {Next : am_K} {End : am_R → Prop} {C' : Nat → List AV → am_M → am_R → Prop} (hC : ∀ y av M r, C y av M r → C' y (av.map (am_rv ρ)) (am_ren ρ iv M) (am_renR ρ iv r))
    (hst : am_stp X SL C full hs k q lv st M kc ks Next End) : am_pkR ρ iv (am_stp X SL C' full hs k q (am_rl ρ lv) (st.map (am_rv ρ)) (am_ren ρ iv M) kc ks) Next End := by
  obtain ⟨pc, i, nx, r1, r2, x⟩ := q
  cases i
  case iadd =>
    obtain ⟨b, s1, rfl, h1⟩ := am_pI_elim hst
    obtain ⟨a, s2, rfl, h2⟩ := am_pI_elim h1
    exact am_pk_nR h2 (fun N' E' h' => h')
  case isub =>
    obtain ⟨b, s1, rfl, h1⟩ := am_pI_elim hst
    obtain ⟨a, s2, rfl, h2⟩ := am_pI_elim h1
    exact am_pk_nR h2 (fun N' E' h' => h')
  case imul =>
    obtain ⟨b, s1, rfl, h1⟩ := am_pI_elim hst
    obtain ⟨a, s2, rfl, h2⟩ := am_pI_elim h1
    exact am_pk_nR h2 (fun N' E' h' => h')
  case iand =>
    obtain ⟨b, s1, rfl, h1⟩ := am_pI_elim hst
    obtain ⟨a, s2, rfl, h2⟩ := am_pI_elim h1
    exact am_pk_nR h2 (fun N' E' h' => h')
  case ior =>
    obtain ⟨b, s1, rfl, h1⟩ := am_pI_elim hst
    obtain ⟨a, s2, rfl, h2⟩ := am_pI_elim h1
    exact am_pk_nR h2 (fun N' E' h' => h')
  case ixor =>
    obtain ⟨b, s1, rfl, h1⟩ := am_pI_elim hst
    obtain ⟨a, s2, rfl, h2⟩ := am_pI_elim h1
    exact am_pk_nR h2 (fun N' E' h' => h')
  case ishl =>
    obtain ⟨b, s1, rfl, h1⟩ := am_pI_elim hst
    obtain ⟨a, s2, rfl, h2⟩ := am_pI_elim h1
    exact am_pk_nR h2 (fun N' E' h' => h')
  case ishr =>
    obtain ⟨b, s1, rfl, h1⟩ := am_pI_elim hst
    obtain ⟨a, s2, rfl, h2⟩ := am_pI_elim h1
    exact am_pk_nR h2 (fun N' E' h' => h')
  case iushr =>
    obtain ⟨b, s1, rfl, h1⟩ := am_pI_elim hst
    obtain ⟨a, s2, rfl, h2⟩ := am_pI_elim h1
    exact am_pk_nR h2 (fun N' E' h' => h')
  case idiv =>
    obtain ⟨b, s1, rfl, h1⟩ := am_pI_elim hst
    obtain ⟨a, s2, rfl, h2⟩ := am_pI_elim h1
    exact am_pk_nR h2.2 (fun N' E' h' => ⟨h2.1, h'⟩)
  case irem =>
    obtain ⟨b, s1, rfl, h1⟩ := am_pI_elim hst
    obtain ⟨a, s2, rfl, h2⟩ := am_pI_elim h1
    exact am_pk_nR h2.2 (fun N' E' h' => ⟨h2.1, h'⟩)
  case ineg =>
    obtain ⟨b, s1, rfl, h1⟩ := am_pI_elim hst
    exact am_pk_nR h1 (fun N' E' h' => h')
  case i2b =>
    obtain ⟨b, s1, rfl, h1⟩ := am_pI_elim hst
    exact am_pk_nR h1 (fun N' E' h' => h')
  case i2c =>
    obtain ⟨b, s1, rfl, h1⟩ := am_pI_elim hst
    exact am_pk_nR h1 (fun N' E' h' => h')
  case i2l =>
    obtain ⟨b, s1, rfl, h1⟩ := am_pI_elim hst
    exact am_pk_nR h1 (fun N' E' h' => h')
  case lcmp =>
    obtain ⟨b, s1, rfl, h1⟩ := am_pL_elim hst
    obtain ⟨a, s2, rfl, h2⟩ := am_pL_elim h1
    exact am_pk_nR h2 (fun N' E' h' => h')
  case dup =>
    obtain ⟨v, s1, rfl, hc1, h1⟩ := am_p1_elim hst
    exact am_pk_nR h1 (fun N' E' h' => ⟨(am_rv_cat.trans hc1), h'⟩)
  case pop =>
    obtain ⟨v, s1, rfl, hc1, h1⟩ := am_p1_elim hst
    exact am_pk_nR h1 (fun N' E' h' => ⟨(am_rv_cat.trans hc1), h'⟩)
  case dup2 =>
    obtain ⟨v, s1, rfl, hc1, h1⟩ := am_p1_elim hst
    obtain ⟨w, s2, rfl, hc2, h2⟩ := am_p1_elim h1
    exact am_pk_nR h2 (fun N' E' h' => ⟨(am_rv_cat.trans hc1), (am_rv_cat.trans hc2), h'⟩)
  case iconst n =>
    exact am_pk_nR (show Next k lv (vI x :: st) M kc ks from hst) (fun N' E' h' => h')
  case bipush n =>
    exact am_pk_nR (show Next k lv (vI x :: st) M kc ks from hst) (fun N' E' h' => h')
  case sipush n =>
    exact am_pk_nR (show Next k lv (vI x :: st) M kc ks from hst) (fun N' E' h' => h')
  case lconst n =>
    exact am_pk_nR (show Next k lv (vL x :: st) M kc ks from hst) (fun N' E' h' => h')
  case iload_n j =>
    simp only [am_stp] at hst
    split at hst
    · rename_i v hv
      exact am_pk_nR hst (fun N' E' h' => by simp only [am_stp, am_rl_get hv]; exact h')
    · exact hst.elim
  case iload j =>
    simp only [am_stp] at hst
    split at hst
    · rename_i v hv
      exact am_pk_nR hst (fun N' E' h' => by simp only [am_stp, am_rl_get hv]; exact h')
    · exact hst.elim
  case aload_n j =>
    simp only [am_stp] at hst
    split at hst
    · rename_i v hv
      exact am_pk_nR hst (fun N' E' h' => by simp only [am_stp, am_rl_get hv]; exact h')
    · exact hst.elim
  case aload j =>
    simp only [am_stp] at hst
    split at hst
    · rename_i v hv
      exact am_pk_nR hst (fun N' E' h' => by simp only [am_stp, am_rl_get hv]; exact h')
    · exact hst.elim
  case iinc j n =>
    simp only [am_stp] at hst
    split at hst
    · rename_i v hv
      exact am_pk_nR hst (fun N' E' h' => by rw [am_rl_set] at h'; simp only [am_stp, am_rl_get hv]; exact h')
    · exact hst.elim
  case istore_n j =>
    obtain ⟨v, s1, rfl, h1⟩ := am_pI_elim hst
    exact am_pk_nR h1 (fun N' E' h' => by rw [am_rl_set] at h'; exact h')
  case istore j =>
    obtain ⟨v, s1, rfl, h1⟩ := am_pI_elim hst
    exact am_pk_nR h1 (fun N' E' h' => by rw [am_rl_set] at h'; exact h')
  case astore_n j =>
    simp only [am_stp] at hst
    split at hst
    · rename_i v s1
      exact am_pk_nR hst.2 (fun N' E' h' => by rw [am_rl_set] at h'; exact ⟨am_rv_cat.trans hst.1, h'⟩)
    · exact hst.elim
  case astore j =>
    simp only [am_stp] at hst
    split at hst
    · rename_i v s1
      exact am_pk_nR hst.2 (fun N' E' h' => by rw [am_rl_set] at h'; exact ⟨am_rv_cat.trans hst.1, h'⟩)
    · exact hst.elim
  case goto off =>
    exact am_pk_nR (show Next (am_seek r1 full) lv st M kc ks from hst) (fun N' E' h' => h')
  case ifCond cd off =>
    obtain ⟨a, s1, rfl, h1⟩ := am_pI_elim hst
    exact am_pk_ifR h1 (fun N' E' h' => h')
  case if_icmp cd off =>
    obtain ⟨b, s1, rfl, h1⟩ := am_pI_elim hst
    obtain ⟨a, s2, rfl, h2⟩ := am_pI_elim h1
    exact am_pk_ifR h2 (fun N' E' h' => h')
  case tableswitch dfl lo hi offs =>
    obtain ⟨a, s1, rfl, h1⟩ := am_pI_elim hst
    by_cases h : a.toInt < lo ∨ hi < a.toInt
    · exact am_pk_nR (h1.1 h) (fun N' E' h' => ⟨fun _ => h', fun h9 => absurd h h9⟩)
    · exact am_pk_nR (h1.2 h) (fun N' E' h' => ⟨fun h9 => absurd h9 h, fun _ => h'⟩)
  case getfield j =>
    obtain ⟨a, s1, rfl, ha, h1⟩ := am_pR_elim hst
    split at h1
    · rename_i hx
      obtain ⟨z, hz, h2⟩ := h1
      exact am_pk_nR h2 (fun N' E' h' => ⟨(am_rA hi ha), by simp only [hx]; exact ⟨_, am_rP hi hz, h'⟩⟩)
    · rename_i hx
      exact am_pk_nR h1 (fun N' E' h' => ⟨(am_rA hi ha), by split <;> first | (show N' _ _ (vI ((am_ren ρ iv M).2 (ρ a) r2) :: _) _ _ _; rw [am_rM hi]; exact h') | exact h' | (rename_i h9; exact absurd h9 hx)⟩)
  case putfield j =>
    obtain ⟨v, s0, rfl, h0⟩ := am_pI_elim hst
    obtain ⟨a, s1, rfl, ha, hf, h1⟩ := am_pR_elim h0
    exact am_pk_nR h1 (fun N' E' h' => by rw [am_r_set hi] at h'; exact ⟨(am_rA hi ha), hf, h'⟩)
  case iaload =>
    obtain ⟨i, s1, rfl, h1⟩ := am_pI_elim hst
    split at h1
    · rename_i a s2
      obtain ⟨n, ha, hin, h2⟩ := h1
      exact am_pk_nR h2 (fun N' E' h' => ⟨n, (am_rA hi ha), hin, (am_rM (M := M) hi a).symm ▸ h'⟩)
    · exact am_pk_nR h1.2 (fun N' E' h' => ⟨h1.1, h'⟩)
    · exact h1.elim
  case baload =>
    obtain ⟨i, s1, rfl, h1⟩ := am_pI_elim hst
    obtain ⟨a, s2, rfl, kd, n, hkd, ha, hin, h2⟩ := am_pR_elim h1
    exact am_pk_nR h2 (fun N' E' h' => ⟨kd, n, hkd, (am_rA hi ha), hin, (am_rM (M := M) hi a).symm ▸ h'⟩)
  case laload =>
    obtain ⟨i, s1, rfl, h1⟩ := am_pI_elim hst
    obtain ⟨a, s2, rfl, n, ha, hin, h2⟩ := am_pR_elim h1
    exact am_pk_nR h2 (fun N' E' h' => ⟨n, (am_rA hi ha), hin, (am_rM (M := M) hi a).symm ▸ h'⟩)
  case aaload =>
    obtain ⟨i, s1, rfl, h1⟩ := am_pI_elim hst
    obtain ⟨a, s2, rfl, kd, n, q, hkd, ha, hin, hq, h2⟩ := am_pR_elim h1
    exact am_pk_nR h2 (fun N' E' h' => ⟨kd, n, _, hkd, (am_rA hi ha), hin, am_rP hi hq, h'⟩)
  case iastore =>
    obtain ⟨v, s0, rfl, h0⟩ := am_pI_elim hst
    obtain ⟨i, s1, rfl, h1⟩ := am_pI_elim h0
    obtain ⟨a, s2, rfl, n, ha, hin, h2⟩ := am_pR_elim h1
    exact am_pk_nR h2 (fun N' E' h' => by rw [am_r_set hi] at h'; exact ⟨n, (am_rA hi ha), hin, h'⟩)
  case bastore =>
    obtain ⟨v, s0, rfl, h0⟩ := am_pI_elim hst
    obtain ⟨i, s1, rfl, h1⟩ := am_pI_elim h0
    obtain ⟨a, s2, rfl, n, hin, h2⟩ := am_pR_elim h1
    rcases h2 with h2 | h2
    · exact am_pk_nR h2.2 (fun N' E' h' => by rw [am_r_set hi] at h'; exact ⟨n, hin, Or.inl ⟨(am_rA hi h2.1), h'⟩⟩)
    · exact am_pk_nR h2.2 (fun N' E' h' => by rw [am_r_set hi] at h'; exact ⟨n, hin, Or.inr ⟨(am_rA hi h2.1), h'⟩⟩)
  case lastore =>
    obtain ⟨v, s0, rfl, h0⟩ := am_pL_elim hst
    obtain ⟨i, s1, rfl, h1⟩ := am_pI_elim h0
    obtain ⟨a, s2, rfl, n, ha, hin, h2⟩ := am_pR_elim h1
    exact am_pk_nR h2 (fun N' E' h' => by rw [am_r_set hi] at h'; exact ⟨n, (am_rA hi ha), hin, h'⟩)
  case aastore =>
    obtain ⟨v, s0, rfl, h0⟩ := am_pR_elim hst
    obtain ⟨i, s1, rfl, h1⟩ := am_pI_elim h0
    obtain ⟨a, s2, rfl, n, hv, ha, hin, h2⟩ := am_pR_elim h1
    exact am_pk_nR h2 (fun N' E' h' => by rw [am_r_ptr hi] at h'; exact ⟨n, (am_rA hi hv), (am_rA hi ha), hin, h'⟩)
  case arraylength =>
    simp only [am_stp] at hst
    split at hst
    · obtain ⟨kd, n, h0, h6, ha, h2⟩ := hst
      exact am_pk_nR h2 (fun N' E' h' => ⟨kd, n, h0, h6, (am_rA hi ha), h'⟩)
    · exact am_pk_nR hst (fun N' E' h' => h')
    · exact hst.elim
  case ldc j =>
    cases r1 with
    | zero => exact am_pk_nR (show Next k lv (vI x :: st) M kc ks from hst) (fun N' E' h' => h')
    | succ r1 => exact am_pk_nR (show Next k lv (vS r2 :: st) M kc ks from hst) (fun N' E' h' => h')
  case ldc_w j =>
    cases r1 with
    | zero => exact am_pk_nR (show Next k lv (vI x :: st) M kc ks from hst) (fun N' E' h' => h')
    | succ r1 => exact am_pk_nR (show Next k lv (vS r2 :: st) M kc ks from hst) (fun N' E' h' => h')
  case invokevirtual j =>
    cases r1 with
    | zero =>
      simp only [am_stp] at hst
      split at hst
      · exact am_pk_nR hst.2.2 (fun N' E' h' => ⟨hst.1, (Nat.le_trans (Nat.le_of_eq am_rv_sum) hst.2.1), h'⟩)
      · exact am_pk_nR hst.2.2.2 (fun N' E' h' => ⟨hst.1, (Nat.le_trans (Nat.le_of_eq am_rv_sum) hst.2.1), hst.2.2.1, h'⟩)
      · exact hst.elim
    | succ r1 => exact am_pk_callR hC hst
  case invokestatic j =>
    cases r1 with
    | zero =>
      obtain ⟨n, s1, rfl, h1⟩ := am_pI_elim hst
      obtain ⟨dp, s2, rfl, h2⟩ := am_pI_elim h1
      obtain ⟨b, s3, rfl, h3⟩ := am_pR_elim h2
      obtain ⟨sp, s4, rfl, h4⟩ := am_pI_elim h3
      obtain ⟨a, s5, rfl, n0, n1, g1, g2, g3, g4, g5, g6, g7, g8, h5⟩ := am_pR_elim h4
      exact am_pk_nR h5 (fun N' E' h' => by rw [am_r_row hi, ← am_rM (M := M) hi a, ← am_rM (M := M) hi b] at h'; exact ⟨n0, n1, (am_rA hi g1), (am_rA hi g2), g3, g4, g5, g6, g7, (Nat.le_trans (Nat.le_of_eq am_rv_sum) g8), h'⟩)
    | succ r1 => exact am_pk_callR hC hst
  case new j =>
    exact am_pk_eR hst.2.2 (fun N' E' h' => ⟨hst.1, (Nat.le_trans (Nat.le_of_eq am_rv_sum) hst.2.1), h'⟩)
  case ireturn =>
    obtain ⟨v, s1, rfl, rfl, hf, h1⟩ := am_pI_elim hst
    exact am_pk_eR h1 (fun N' E' h' => ⟨rfl, hf, h'⟩)
  case return_ =>
    obtain ⟨rfl, h1⟩ := hst
    exact am_pk_eR h1 (fun N' E' h' => ⟨rfl, h'⟩)
  all_goals exact hst.elim
theorem am_run_ren (hi : ∀ a, iv (ρ a) = a) {X : Nat × (Nat → Int32)} {SL : Nat → List Int32} {C C' : Nat → List AV → am_M → am_R → Prop} {full : List am_CE} {hs : List (Nat × Nat × Nat)} (hC : ∀ y av M r, C y av M r → C' y (av.map (am_rv ρ)) (am_ren ρ iv M) (am_renR ρ iv r)) {r : am_R} : ∀ (n : Nat) (k : List am_CE) (lv : List (Option AV)) (st : List AV) (M : am_M) (kc ks : Nat), am_Run X SL C full hs n k lv st M kc ks r → am_Run X SL C' full hs n k (am_rl ρ lv) (st.map (am_rv ρ)) (am_ren ρ iv M) kc ks (am_renR ρ iv r)
  | 0, _, _, _, _, _, _, h => h.elim
  | _ + 1, [], _, _, _, _, _, h => h.elim
  | n + 1, q :: k, lv, st, M, kc, ks, h => by
    rcases am_stp_ren hi hC h with ⟨k', lv', st', M', kc', ks', h1, g⟩ | ⟨r', h1, g⟩
    · exact g _ _ (am_run_ren hi hC n k' lv' st' M' kc' ks' h1)
    · have h1 : r' = r := h1
      subst h1
      exact g _ _ rfl
theorem am_call_ren (hi : ∀ a, iv (ρ a) = a) {X : Nat × (Nat → Int32)} {SL : Nat → List Int32} {mt : Nat → am_MI} : ∀ (d y : Nat) (av : List AV) (M : am_M) (r : am_R), am_Call X SL mt d y av M r → am_Call X SL mt d y (av.map (am_rv ρ)) (am_ren ρ iv M) (am_renR ρ iv r)
  | 0, _, _, _, _, h => h.elim
  | d + 1, y, av, M, r, h => by
    obtain ⟨h1, h2, n, h3⟩ := h
    refine ⟨?_, ?_, n, ?_⟩
    · unfold am_recv at h1 ⊢
      split at h1
      · trivial
      · split at h1
        · exact am_rA hi h1
        · exact h1.elim
    · intro v hv
      obtain ⟨w, hw, rfl⟩ := List.mem_map.mp hv
      exact am_rv_cat.trans (h2 w hw)
    · have h4 := am_run_ren hi (am_call_ren hi d) n _ _ _ _ _ _ h3
      have e : am_rl ρ (am_lv (mt y).2.1 av) = am_lv (mt y).2.1 (av.map (am_rv ρ)) := by
        unfold am_rl am_lv
        simp [Function.comp_def]
      rw [e] at h4
      exact h4
end AMRN
