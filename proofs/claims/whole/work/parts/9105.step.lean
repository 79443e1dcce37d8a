/-! ONE ROW OF CODE: what the machine does is what the frame does (all but calls, throws, ends) -/
theorem am_lcmp_eq (x y : Int32) : lg_cmp x.toInt64 y.toInt64 = am_lcmp x y := by
  unfold am_lcmp lg_cmp
  have h1 : y.toInt64 < x.toInt64 ↔ y < x := by rw [Int64.lt_iff_toInt_lt, Int32.lt_iff_toInt_lt, Int32.toInt_toInt64, Int32.toInt_toInt64]
  have h2 : x.toInt64 = y.toInt64 ↔ x = y := by
    constructor
    · intro h
      have h3 := congrArg Int64.toInt h
      rw [Int32.toInt_toInt64, Int32.toInt_toInt64] at h3
      exact Int32.toInt_inj.mp h3
    · intro h
      rw [h]
  simp only [h1, h2]
theorem am_nar_bool {x : Int32} (h : vp_nar .boolean x = x) : narrow .boolean (.int x) = .int x ∧ fits .boolean (.int x) = true := by
  have h1 : narrow .boolean (.int x) = .int (vp_nar .boolean x) := by
    unfold vp_nar
    simp [narrow]
  refine ⟨by rw [h1, h], ?_⟩
  have h2 : x &&& 1 = x := h
  obtain ⟨j, hj, e⟩ := pk_andE x (m := 1) 1 (by decide)
  rw [h2] at e
  subst e
  rcases (show j = 0 ∨ j = 1 by omega) with rfl | rfl <;> decide
theorem am_dl {cc : ByteArray} {pc nx n : Nat} {i : Instr} (h : decode cc pc = .ok (i, nx - pc)) (hn : nx = pc + n) : decode cc pc = .ok (i, n) := by
  rw [h, hn, Nat.add_sub_cancel_left]
section AMS
variable {p : Program} {l : Launch} {e : Env} {R : Room} {s : State} {m : MethodId} {args : Array Value} {below : List Frame} {meth : Method} {c : Code} {Q : State → Prop} {cc : ByteArray} {nL o rt : Nat} {full : List am_CE} {D : va_G} {cs : am_CS} {sA aV : Nat → Nat} {B : Nat} {X : Nat × (Nat → Int32)} {A : Nat → Prop}
variable {C : Nat → List AV → am_M → am_R → Prop} {hs : List (Nat × Nat × Nat)} {Next : am_K} {End : am_R → Prop} {k : List am_CE} {lv : List (Option AV)} {st : List AV} {M : am_M} {kc ks : Nat}
/-- rows that call, throw or end: told elsewhere -/
def am_hard (i : Instr) : Bool := match i with
  | .invokevirtual _ => true
  | .invokestatic _ => true
  | .new _ => true
  | .ireturn => true
  | .return_ => true
  | _ => false
theorem am_link (hts : ∀ w ∈ am_TG, w.before args s = true) {j r1 r2 : Nat} (h : ((am_cpF o).lookup j).any (fun q => q.1 == r1 && q.2.1 == r2) = true) : (Cond.fieldLink (am_cn o) j (am_cn r1) (am_T r1 r2).2.1 (am_T r1 r2).2.2.1).before args s = true := by
  obtain ⟨⟨b1, b2, b3⟩, h1, h2⟩ := am_lookup_any h
  simp only [Bool.and_eq_true, beq_iff_eq] at h2
  obtain ⟨rfl, rfl⟩ := h2
  exact hts _ (am_tk (am_cpF_ok o (am_cp_lt h) _ h1) rfl)
theorem am_const (hts : ∀ w ∈ am_TG, w.before args s = true) {j : Nat} {x : Int32} (h : ((am_cpI o).lookup j).any (fun q => q.1 == x) = true) : (Cond.constant (am_cn o) j x).before args s = true := by
  obtain ⟨⟨b1, b2⟩, h1, h2⟩ := am_lookup_any h
  simp only [beq_iff_eq] at h2
  subst h2
  have ho : o < 17 := by
    rcases Nat.lt_or_ge o 17 with h3 | h3
    · exact h3
    · have e : am_cpI o = [] := by
        unfold am_cpI
        rw [List.getD_eq_getElem?_getD, List.getElem?_eq_none (by simpa using h3)]
        rfl
      rw [e] at h1
      cases h1
  exact hts _ (am_tk (am_cpI_ok o ho _ h1) rfl)
theorem am_strr {j r2 : Nat} (h : (am_sx[r2]?).any (fun q => q.1 == o && q.2.1 == j) = true) : ∃ t, am_sx[r2]? = some (o, j, t) := by
  cases hq : am_sx[r2]? with
  | none => rw [hq] at h; cases h
  | some q =>
    rw [hq] at h
    obtain ⟨q1, q2, q3⟩ := q
    simp only [Option.any_some, Bool.and_eq_true, beq_iff_eq] at h
    obtain ⟨rfl, rfl⟩ := h
    exact ⟨q3, rfl⟩
theorem am_ldcSW {pc : Nat} {H : Heap} {locs : List Loc} {ls : Array Slot} {rest : List Value} (hexec : p.tables.exec = Jvm.exec) (hb : c.code = cc) {own tx : String} {index q : Nat} (hown : s.vm.findClass own = some m.cls) (hZ : vk_R own index tx q s) (hdg : decode cc pc = .ok (.ldc_w index, 3))
    (kk : W p l e R s m args below meth c H locs kc ks Q (F0 m (pc + 3) ls (.ref q :: rest))) : W p l e R s m args below meth c H locs kc ks Q (F0 m pc ls rest) := by
  intro T hT Xs
  obtain ⟨t, a1, b1⟩ := kk T hT Xs
  exact ⟨t, Xs.ldcStringW hexec (own := own) (text := tx) (index := index) (a := q) hown hZ.1 hZ.2 (g := F0 m pc ls rest) rfl (by rw [hb]; exact hdg) t a1, b1⟩
set_option maxHeartbeats 4000000 in
theorem am_step (hF : am_Fx p s m args c cc nL o rt full D cs sA aV B X A) (hN : ∀ k' lv' st' M' kc' ks', Next k' lv' st' M' kc' ks' → am_G p l e R s m args below meth c Q nL full D cs sA B A k' lv' st' M' kc' ks') {q : am_CE} (hsoft : am_hard q.2.1 = false) (hsuf : am_suf full (q :: k))
    (hst : am_stp X am_SL C full hs k q lv st M kc ks Next End) : am_G p l e R s m args below meth c Q nL full D cs sA B A (q :: k) lv st M kc ks := by
  intro pc0 H locs ls hpc hsuf0 hW hlo
  clear hsuf0
  obtain ⟨hx, hb, hml, hown, hts, hC, hA, hdec, hok⟩ := hF
  have hd0 := hdec q (am_suf_mem hsuf)
  obtain ⟨hokB, hokN⟩ := am_okL_suf hsuf hok
  have hpc1 : q.1 = pc0 := hpc (by simp)
  have hK := hC.1
  obtain ⟨pc, i, nx, r1, r2, x⟩ := q
  dsimp only at hpc1 hd0 hsoft
  subst hpc1
  have nxt : ∀ {lv' : List (Option AV)} {st' : List AV} {M' : am_M} {H' : Heap} {locs' : List Loc} {ls' : Array Slot} {n : Nat}, nx = pc + n → Next k lv' st' M' kc ks → am_Wd D cs A s M' H' locs' → am_lo sA B ls' nL lv' → W p l e R s m args below meth c H' locs' kc ks Q (F0 m (pc + n) ls' (st'.map (am_v sA B))) :=
    fun hn h hw hl => hN _ _ _ _ _ _ h _ _ _ _ (fun hk => (am_next hokN hk).trans hn) (am_suf_tail hsuf) hw hl
  have jmp : ∀ {t : Nat} {lv' : List (Option AV)} {st' : List AV} {M' : am_M} {H' : Heap} {locs' : List Loc} {ls' : Array Slot}, Next (am_seek t full) lv' st' M' kc ks → am_Wd D cs A s M' H' locs' → am_lo sA B ls' nL lv' → W p l e R s m args below meth c H' locs' kc ks Q (F0 m t ls' (st'.map (am_v sA B))) :=
    fun h hw hl => hN _ _ _ _ _ _ h _ _ _ _ (am_seek_suf _ full).2 (am_seek_suf _ full).1 hw hl
  clear hpc
  cases i
  case iadd =>
    have hnx : nx = pc + 1 := by simpa [am_okB] using hokB
    obtain ⟨b, s1, rfl, hst⟩ := am_pI_elim hst
    obtain ⟨a, s2, rfl, hst⟩ := am_pI_elim hst
    exact lv_iadd hx hb (am_dl hd0 hnx) (nxt hnx hst hW hlo)
  case isub =>
    have hnx : nx = pc + 1 := by simpa [am_okB] using hokB
    obtain ⟨b, s1, rfl, hst⟩ := am_pI_elim hst
    obtain ⟨a, s2, rfl, hst⟩ := am_pI_elim hst
    exact lv_isub hx hb (am_dl hd0 hnx) (nxt hnx hst hW hlo)
  case imul =>
    have hnx : nx = pc + 1 := by simpa [am_okB] using hokB
    obtain ⟨b, s1, rfl, hst⟩ := am_pI_elim hst
    obtain ⟨a, s2, rfl, hst⟩ := am_pI_elim hst
    exact lv_imul hx hb (am_dl hd0 hnx) (nxt hnx hst hW hlo)
  case iand =>
    have hnx : nx = pc + 1 := by simpa [am_okB] using hokB
    obtain ⟨b, s1, rfl, hst⟩ := am_pI_elim hst
    obtain ⟨a, s2, rfl, hst⟩ := am_pI_elim hst
    exact lv_iand hx hb (am_dl hd0 hnx) (nxt hnx hst hW hlo)
  case ior =>
    have hnx : nx = pc + 1 := by simpa [am_okB] using hokB
    obtain ⟨b, s1, rfl, hst⟩ := am_pI_elim hst
    obtain ⟨a, s2, rfl, hst⟩ := am_pI_elim hst
    exact lv_ior hx hb (am_dl hd0 hnx) (nxt hnx hst hW hlo)
  case ixor =>
    have hnx : nx = pc + 1 := by simpa [am_okB] using hokB
    obtain ⟨b, s1, rfl, hst⟩ := am_pI_elim hst
    obtain ⟨a, s2, rfl, hst⟩ := am_pI_elim hst
    exact lv_ixor hx hb (am_dl hd0 hnx) (nxt hnx hst hW hlo)
  case ishl =>
    have hnx : nx = pc + 1 := by simpa [am_okB] using hokB
    obtain ⟨b, s1, rfl, hst⟩ := am_pI_elim hst
    obtain ⟨a, s2, rfl, hst⟩ := am_pI_elim hst
    exact lv_ishl hx hb (am_dl hd0 hnx) (nxt hnx hst hW hlo)
  case ishr =>
    have hnx : nx = pc + 1 := by simpa [am_okB] using hokB
    obtain ⟨b, s1, rfl, hst⟩ := am_pI_elim hst
    obtain ⟨a, s2, rfl, hst⟩ := am_pI_elim hst
    exact lv_ishr hx hb (am_dl hd0 hnx) (nxt hnx hst hW hlo)
  case iushr =>
    have hnx : nx = pc + 1 := by simpa [am_okB] using hokB
    obtain ⟨b, s1, rfl, hst⟩ := am_pI_elim hst
    obtain ⟨a, s2, rfl, hst⟩ := am_pI_elim hst
    exact lv_iushr hx hb (am_dl hd0 hnx) rfl (nxt hnx hst hW hlo)
  case idiv =>
    have hnx : nx = pc + 1 := by simpa [am_okB] using hokB
    obtain ⟨b, s1, rfl, hst⟩ := am_pI_elim hst
    obtain ⟨a, s2, rfl, hne, hst⟩ := am_pI_elim hst
    exact lv_idiv hx hb (am_dl hd0 hnx) hne (nxt hnx hst hW hlo)
  case irem =>
    have hnx : nx = pc + 1 := by simpa [am_okB] using hokB
    obtain ⟨b, s1, rfl, hst⟩ := am_pI_elim hst
    obtain ⟨a, s2, rfl, hne, hst⟩ := am_pI_elim hst
    exact lv_irem hx hb (am_dl hd0 hnx) hne (nxt hnx hst hW hlo)
  case ineg =>
    have hnx : nx = pc + 1 := by simpa [am_okB] using hokB
    obtain ⟨b, s1, rfl, hst⟩ := am_pI_elim hst
    exact lv_ineg hx hb (am_dl hd0 hnx) (nxt hnx hst hW hlo)
  case i2b =>
    have hnx : nx = pc + 1 := by simpa [am_okB] using hokB
    obtain ⟨b, s1, rfl, hst⟩ := am_pI_elim hst
    exact lv_i2b hx hb (am_dl hd0 hnx) rfl (nxt hnx hst hW hlo)
  case i2c =>
    have hnx : nx = pc + 1 := by simpa [am_okB] using hokB
    obtain ⟨b, s1, rfl, hst⟩ := am_pI_elim hst
    exact lv_i2c hx hb (am_dl hd0 hnx) rfl (nxt hnx hst hW hlo)
  case i2l =>
    have hnx : nx = pc + 1 := by simpa [am_okB] using hokB
    obtain ⟨b, s1, rfl, hst⟩ := am_pI_elim hst
    exact lv_i2l hx hb (am_dl hd0 hnx) rfl (nxt hnx hst hW hlo)
  case lcmp =>
    have hnx : nx = pc + 1 := by simpa [am_okB] using hokB
    obtain ⟨b, s1, rfl, hst⟩ := am_pL_elim hst
    obtain ⟨a, s2, rfl, hst⟩ := am_pL_elim hst
    refine W.lcmp hx hb (am_dl hd0 hnx) ?_
    rw [am_lcmp_eq]
    exact nxt hnx hst hW hlo
  case dup =>
    have hnx : nx = pc + 1 := by simpa [am_okB] using hokB
    obtain ⟨v, s1, rfl, hc1, hst⟩ := am_p1_elim hst
    exact lv_dup hx hb (am_dl hd0 hnx) (am_v_cat hc1) (nxt hnx hst hW hlo)
  case dup2 =>
    have hnx : nx = pc + 1 := by simpa [am_okB] using hokB
    obtain ⟨v, s1, rfl, hc1, hst⟩ := am_p1_elim hst
    obtain ⟨w, s2, rfl, hc2, hst⟩ := am_p1_elim hst
    exact lv_dup2_11 hx hb (am_dl hd0 hnx) (am_v_cat hc1) (am_v_cat hc2) (nxt hnx hst hW hlo)
  case pop =>
    have hnx : nx = pc + 1 := by simpa [am_okB] using hokB
    obtain ⟨v, s1, rfl, hc1, hst⟩ := am_p1_elim hst
    exact lv_pop hx hb (am_dl hd0 hnx) (am_v_cat hc1) (nxt hnx hst hW hlo)
  case iconst n =>
    have h2 : Int32.ofInt n = x ∧ nx = pc + 1 := by simpa [am_okB] using hokB
    exact lv_iconst hx hb (am_dl hd0 h2.2) h2.1 (nxt h2.2 hst hW hlo)
  case bipush n =>
    have h2 : (Int8.ofInt n).toInt32 = x ∧ nx = pc + 2 := by simpa [am_okB] using hokB
    exact lv_bipush hx hb (am_dl hd0 h2.2) h2.1 (nxt h2.2 hst hW hlo)
  case sipush n =>
    have h2 : (Int16.ofInt n).toInt32 = x ∧ nx = pc + 3 := by simpa [am_okB] using hokB
    exact lv_sipush hx hb (am_dl hd0 h2.2) h2.1 (nxt h2.2 hst hW hlo)
  case lconst n =>
    have h2 : Int64.ofNat (n : Nat) = x.toInt64 ∧ nx = pc + 1 := by simpa [am_okB] using hokB
    exact lv_lconst hx hb (am_dl hd0 h2.2) h2.1 (nxt h2.2 hst hW hlo)
  case iload_n j =>
    have h2 : j.val = r1 ∧ nx = pc + 1 := by simpa [am_okB] using hokB
    have hnx := h2.2
    simp only [am_stp] at hst
    split at hst
    · rename_i v hv
      have h3 := (hlo.2.2 _ _ (am_getD hv)).2
      exact lv_iload_n hx hb (am_dl hd0 hnx) h2.1 h3 (nxt hnx hst hW hlo)
    · exact hst.elim
  case iload j =>
    have h2 : j = r1 ∧ nx = pc + 2 := by simpa [am_okB] using hokB
    obtain ⟨rfl, hnx⟩ := h2
    simp only [am_stp] at hst
    split at hst
    · rename_i v hv
      have h3 := (hlo.2.2 _ _ (am_getD hv)).2
      exact lv_iload hx hb (am_dl hd0 hnx) h3 (nxt hnx hst hW hlo)
    · exact hst.elim
  case aload_n j =>
    have h2 : j.val = r1 ∧ nx = pc + 1 := by simpa [am_okB] using hokB
    have hnx := h2.2
    simp only [am_stp] at hst
    split at hst
    · rename_i v hv
      obtain ⟨h4, h3⟩ := hlo.2.2 _ _ (am_getD hv)
      obtain ⟨z, hz⟩ := am_v_ref (sA := sA) (B := B) h4
      rw [hz] at h3
      have h5 := nxt hnx hst hW hlo
      rw [List.map_cons, hz] at h5
      exact lv_aload_n hx hb (am_dl hd0 hnx) h2.1 h3 h5
    · exact hst.elim
  case aload j =>
    have h2 : j = r1 ∧ nx = pc + 2 := by simpa [am_okB] using hokB
    obtain ⟨rfl, hnx⟩ := h2
    simp only [am_stp] at hst
    split at hst
    · rename_i v hv
      obtain ⟨h4, h3⟩ := hlo.2.2 _ _ (am_getD hv)
      obtain ⟨z, hz⟩ := am_v_ref (sA := sA) (B := B) h4
      rw [hz] at h3
      have h5 := nxt hnx hst hW hlo
      rw [List.map_cons, hz] at h5
      exact lv_aload hx hb (am_dl hd0 hnx) h3 h5
    · exact hst.elim
  case istore_n j =>
    have h2 : (j.val = r1 ∧ r1 < nL) ∧ nx = pc + 1 := by simpa [am_okB] using hokB
    obtain ⟨⟨h2, h3⟩, hnx⟩ := h2
    obtain ⟨v, s1, rfl, hst⟩ := am_pI_elim hst
    exact lv_istore_n hx hb (am_dl hd0 hnx) h2 (am_lo_has hlo) h3 rfl (fun ls1 hl1 => nxt hnx hst hW (am_lo_set (v := vI v) hlo rfl hl1))
  case istore j =>
    have h2 : (j = r1 ∧ r1 < nL) ∧ nx = pc + 2 := by simpa [am_okB] using hokB
    obtain ⟨⟨h2, h3⟩, hnx⟩ := h2
    obtain ⟨v, s1, rfl, hst⟩ := am_pI_elim hst
    subst h2
    exact lv_istore hx hb (am_dl hd0 hnx) (am_lo_has hlo) h3 rfl (fun ls1 hl1 => nxt hnx hst hW (am_lo_set (v := vI v) hlo rfl hl1))
  case astore_n j =>
    have h2 : (j.val = r1 ∧ r1 < nL) ∧ nx = pc + 1 := by simpa [am_okB] using hokB
    obtain ⟨⟨h2, h3⟩, hnx⟩ := h2
    simp only [am_stp] at hst
    split at hst
    · rename_i v s1
      obtain ⟨h4, hst⟩ := hst
      obtain ⟨z, hz⟩ := am_v_ref (sA := sA) (B := B) h4
      rw [List.map_cons, hz]
      exact lv_astore_n hx hb (am_dl hd0 hnx) h2 (am_lo_has hlo) h3 rfl (fun ls1 hl1 => nxt hnx hst hW (am_lo_set (v := .inr v) hlo h4 (by rw [hz]; exact hl1)))
    · exact hst.elim
  case astore j =>
    have h2 : (j = r1 ∧ r1 < nL) ∧ nx = pc + 2 := by simpa [am_okB] using hokB
    obtain ⟨⟨h2, h3⟩, hnx⟩ := h2
    simp only [am_stp] at hst
    split at hst
    · rename_i v s1
      obtain ⟨h4, hst⟩ := hst
      obtain ⟨z, hz⟩ := am_v_ref (sA := sA) (B := B) h4
      rw [List.map_cons, hz]
      subst h2
      exact lv_astore hx hb (am_dl hd0 hnx) (am_lo_has hlo) h3 rfl (fun ls1 hl1 => nxt hnx hst hW (am_lo_set (v := .inr v) hlo h4 (by rw [hz]; exact hl1)))
    · exact hst.elim
  case iinc j n =>
    have h2 : ((j = r1 ∧ r1 < nL) ∧ Int32.ofInt n = x) ∧ nx = pc + 3 := by simpa [am_okB] using hokB
    obtain ⟨⟨⟨rfl, h3⟩, h4⟩, hnx⟩ := h2
    simp only [am_stp] at hst
    split at hst
    · rename_i v hv
      obtain ⟨z, hz⟩ := List.getElem?_of_mem (am_ll_mem (sA := sA) (B := B) (q := (j, Value.int v)).mpr ⟨vI v, am_getD hv, rfl⟩)
      exact lv_iinc hx hb (am_dl hd0 hnx) (am_lo_has hlo) hz (by rw [h4]) h3 rfl (fun ls1 hl1 => nxt hnx hst hW (am_lo_set (v := vI (v + x)) hlo rfl hl1))
    · exact hst.elim
  case goto off =>
    have h2 : (pc : Int) + off = (r1 : Int) ∧ nx = pc + 3 := by simpa [am_okB] using hokB
    exact lv_goto hx hb (am_dl hd0 h2.2) h2.1 (jmp hst hW hlo)
  case ifCond cd off =>
    have h2 : (pc : Int) + off = (r1 : Int) ∧ nx = pc + 3 := by simpa [am_okB] using hokB
    obtain ⟨h2, hnx⟩ := h2
    obtain ⟨a, s1, rfl, hst⟩ := am_pI_elim hst
    cases cd
    case eq => exact lv_if_eq hx hb (am_dl hd0 hnx) h2 (fun h => jmp (hst.1 h) hW hlo) (fun h => nxt hnx (hst.2 h) hW hlo)
    case ne => exact lv_if_ne hx hb (am_dl hd0 hnx) h2 (fun h => jmp (hst.1 h) hW hlo) (fun h => nxt hnx (hst.2 h) hW hlo)
    case lt => exact lv_if_lt hx hb (am_dl hd0 hnx) h2 (fun h => jmp (hst.1 h) hW hlo) (fun h => nxt hnx (hst.2 h) hW hlo)
    case ge => exact lv_if_ge hx hb (am_dl hd0 hnx) h2 (fun h => jmp (hst.1 h) hW hlo) (fun h => nxt hnx (hst.2 h) hW hlo)
    case gt => exact lv_if_gt hx hb (am_dl hd0 hnx) h2 (fun h => jmp (hst.1 h) hW hlo) (fun h => nxt hnx (hst.2 h) hW hlo)
    case le => exact lv_if_le hx hb (am_dl hd0 hnx) h2 (fun h => jmp (hst.1 h) hW hlo) (fun h => nxt hnx (hst.2 h) hW hlo)
  case if_icmp cd off =>
    have h2 : (pc : Int) + off = (r1 : Int) ∧ nx = pc + 3 := by simpa [am_okB] using hokB
    obtain ⟨h2, hnx⟩ := h2
    obtain ⟨b, s1, rfl, hst⟩ := am_pI_elim hst
    obtain ⟨a, s2, rfl, hst⟩ := am_pI_elim hst
    cases cd
    case eq => exact lv_icmp_eq hx hb (am_dl hd0 hnx) h2 (fun h => jmp (hst.1 h) hW hlo) (fun h => nxt hnx (hst.2 h) hW hlo)
    case ne => exact lv_icmp_ne hx hb (am_dl hd0 hnx) h2 (fun h => jmp (hst.1 h) hW hlo) (fun h => nxt hnx (hst.2 h) hW hlo)
    case lt => exact lv_icmp_lt hx hb (am_dl hd0 hnx) h2 (fun h => jmp (hst.1 h) hW hlo) (fun h => nxt hnx (hst.2 h) hW hlo)
    case ge => exact lv_icmp_ge hx hb (am_dl hd0 hnx) h2 (fun h => jmp (hst.1 h) hW hlo) (fun h => nxt hnx (hst.2 h) hW hlo)
    case gt => exact lv_icmp_gt hx hb (am_dl hd0 hnx) h2 (fun h => jmp (hst.1 h) hW hlo) (fun h => nxt hnx (hst.2 h) hW hlo)
    case le => exact lv_icmp_le hx hb (am_dl hd0 hnx) h2 (fun h => jmp (hst.1 h) hW hlo) (fun h => nxt hnx (hst.2 h) hW hlo)
  case tableswitch dfl lo hi offs =>
    simp only [am_okB, Bool.and_eq_true, decide_eq_true_eq] at hokB
    obtain ⟨⟨⟨h2, h3⟩, h4⟩, h5⟩ := hokB
    obtain ⟨a, s1, rfl, hst⟩ := am_pI_elim hst
    by_cases h : a.toInt < lo ∨ hi < a.toInt
    · exact lv_tableOut hx hb hd0 h h2 (jmp (hst.1 h) hW hlo)
    · have hlt : (a.toInt - lo).toNat < offs.size := by omega
      have ho : offs[(a.toInt - lo).toNat]? = some (offs.getD (a.toInt - lo).toNat 0) := by
        rw [Array.getD_eq_getD_getElem?, Array.getElem?_eq_getElem hlt]
        rfl
      have hmem : offs.getD (a.toInt - lo).toNat 0 ∈ offs.toList := by
        rw [Array.mem_toList_iff]
        exact Array.mem_of_getElem? ho
      have h6 : 0 ≤ (pc : Int) + offs.getD (a.toInt - lo).toNat 0 := by simpa using List.all_eq_true.mp h5 _ hmem
      exact lv_tableIn hx hb hd0 (fun q => h (Or.inl q)) (fun q => h (Or.inr q)) ho (Int.toNat_of_nonneg h6).symm (jmp (hst.2 h) hW hlo)
  case getfield j =>
    simp only [am_okB, Bool.and_eq_true, Bool.or_eq_true, decide_eq_true_eq, beq_iff_eq] at hokB
    obtain ⟨⟨⟨⟨hnx, h13⟩, hk⟩, hcp⟩, hft⟩ := hokB
    have hlink := am_link hts hcp
    obtain ⟨a, s1, rfl, ha, hst⟩ := am_pR_elim hst
    rcases hft with ⟨rfl, hft⟩ | ⟨rfl, hft⟩
    · obtain ⟨z, hz, hst⟩ : ∃ z, (M.1.2.2 a).2.2 r2 = some z ∧ Next k lv (vR z :: s1) M kc ks := hst
      refine am_get hx hb hts (am_in_lays h13) hown hK hW ha h13 hk hlink hft (am_dl hd0 hnx) ?_
      rw [hz]
      exact nxt hnx hst hW hlo
    · have hst : Next k lv (vI (M.2 a r2) :: s1) M kc ks := hst
      exact am_get hx hb hts (am_in_lays h13) hown hK hW ha h13 hk hlink hft (am_dl hd0 hnx) (nxt hnx hst hW hlo)
  case putfield j =>
    simp only [am_okB, Bool.and_eq_true, Bool.or_eq_true, decide_eq_true_eq, beq_iff_eq, Bool.not_eq_true'] at hokB
    obtain ⟨⟨⟨⟨⟨⟨hnx, h13⟩, hk⟩, hcp⟩, hft⟩, hfin⟩, hds⟩ := hokB
    have hlink := am_link hts hcp
    obtain ⟨v, s0, e0, hst0⟩ := am_pI_elim hst
    obtain ⟨a, s1, e1, ha, hfi, hst1⟩ := am_pR_elim hst0
    clear hst hst0
    subst e1
    subst e0
    rcases hds with ⟨rfl, hds⟩ | ⟨rfl, hds⟩
    · have hty : am_ty r1 r2 = .int := by unfold am_ty; rw [hds]; decide +kernel
      exact am_put hx hb hts (am_in_lays h13) hown hK hW ha h13 hk hlink hft hfin (by rw [hty]; rfl) (by rw [hty]; rfl) (am_dl hd0 hnx) (fun H1 l1 hw => nxt hnx hst1 hw hlo)
    · have hty : am_ty r1 r2 = .boolean := by unfold am_ty; rw [hds]; decide +kernel
      have hfi : vp_nar .boolean v = v := hfi
      exact am_put hx hb hts (am_in_lays h13) hown hK hW ha h13 hk hlink hft hfin (by rw [hty]; exact (am_nar_bool hfi).1) (by rw [hty]; exact (am_nar_bool hfi).2) (am_dl hd0 hnx) (fun H1 l1 hw => nxt hnx hst1 hw hlo)
  case iaload =>
    have hnx : nx = pc + 1 := by simpa [am_okB] using hokB
    obtain ⟨i, s1, e1, hst1⟩ := am_pI_elim hst
    clear hst
    subst e1
    split at hst1
    · rename_i a s2
      obtain ⟨n, ha, hin, hst1⟩ := hst1
      exact am_iald hx hb hK hW ha hin (am_dl hd0 hnx) (nxt hnx hst1 hW hlo)
    · rename_i u s2
      obtain ⟨hin, hst1⟩ := hst1
      exact va_sld hx hb hC.2.2.2.2.2.2.2.1 hC.2.2.2.2.2.2.2.2.1 hC.2.2.2.2.2.2.2.2.2.1 hW.2.2.1 hin (am_dl hd0 hnx) (nxt hnx hst1 hW hlo)
    · exact hst1.elim
  case baload =>
    have hnx : nx = pc + 1 := by simpa [am_okB] using hokB
    obtain ⟨i, s1, rfl, hst⟩ := am_pI_elim hst
    obtain ⟨a, s2, rfl, kd, n, hkd, ha, hin, hst⟩ := am_pR_elim hst
    exact am_bald hx hb hK hW hkd ha hin (am_dl hd0 hnx) (nxt hnx hst hW hlo)
  case laload =>
    have hnx : nx = pc + 1 := by simpa [am_okB] using hokB
    obtain ⟨i, s1, rfl, hst⟩ := am_pI_elim hst
    obtain ⟨a, s2, rfl, n, ha, hin, hst⟩ := am_pR_elim hst
    exact am_lald hx hb hK hW ha hin (am_dl hd0 hnx) (nxt hnx hst hW hlo)
  case aaload =>
    have hnx : nx = pc + 1 := by simpa [am_okB] using hokB
    obtain ⟨i, s1, rfl, hst⟩ := am_pI_elim hst
    obtain ⟨a, s2, rfl, kd, n, q, hkd, ha, hin, hq, hst⟩ := am_pR_elim hst
    refine am_aald hx hb hK hW hkd ha hin (am_dl hd0 hnx) ?_
    rw [hq]
    exact nxt hnx hst hW hlo
  case iastore =>
    have hnx : nx = pc + 1 := by simpa [am_okB] using hokB
    obtain ⟨v, s0, rfl, hst⟩ := am_pI_elim hst
    obtain ⟨i, s1, rfl, hst⟩ := am_pI_elim hst
    obtain ⟨a, s2, rfl, n, ha, hin, hst⟩ := am_pR_elim hst
    exact am_iast hx hb hK hW ha hin (am_dl hd0 hnx) (fun H1 l1 hw => nxt hnx hst hw hlo)
  case bastore =>
    have hnx : nx = pc + 1 := by simpa [am_okB] using hokB
    obtain ⟨v, s0, rfl, hst⟩ := am_pI_elim hst
    obtain ⟨i, s1, rfl, hst⟩ := am_pI_elim hst
    obtain ⟨a, s2, rfl, n, hin, hst⟩ := am_pR_elim hst
    rcases hst with ⟨ha, hst⟩ | ⟨ha, hst⟩
    · exact am_bast hx hb hK hW ha hin (am_dl hd0 hnx) (fun H1 l1 hw => nxt hnx hst hw hlo)
    · exact am_zast hx hb hK hW ha hin (am_dl hd0 hnx) (fun H1 l1 hw => nxt hnx hst hw hlo)
  case lastore =>
    have hnx : nx = pc + 1 := by simpa [am_okB] using hokB
    obtain ⟨v, s0, rfl, hst⟩ := am_pL_elim hst
    obtain ⟨i, s1, rfl, hst⟩ := am_pI_elim hst
    obtain ⟨a, s2, rfl, n, ha, hin, hst⟩ := am_pR_elim hst
    exact am_last hx hb hK hW ha hin (am_dl hd0 hnx) (fun H1 l1 hw => nxt hnx hst hw hlo)
  case aastore =>
    have hnx : nx = pc + 1 := by simpa [am_okB] using hokB
    obtain ⟨v, s0, rfl, hst⟩ := am_pR_elim hst
    obtain ⟨i, s1, rfl, hst⟩ := am_pI_elim hst
    obtain ⟨a, s2, rfl, n, hv, ha, hin, hst⟩ := am_pR_elim hst
    exact am_aast hx hb hK hW hv ha hin (am_dl hd0 hnx) (fun H1 l1 hw => nxt hnx hst hw hlo)
  case arraylength =>
    have hnx : nx = pc + 1 := by simpa [am_okB] using hokB
    simp only [am_stp] at hst
    split at hst
    · rename_i a s1
      obtain ⟨kd, n, h0, h6, ha, hst⟩ := hst
      exact am_alen hx hb hK hW h0 h6 ha (am_dl hd0 hnx) (nxt hnx hst hW hlo)
    · rename_i u s1
      exact va_slen hx hb hC.2.2.2.2.2.2.2.1 hC.2.2.2.2.2.2.2.2.1 hC.2.2.2.2.2.2.2.2.2.1 hW.2.2.1 (am_dl hd0 hnx) (nxt hnx hst hW hlo)
    · exact hst.elim
  case ldc j =>
    cases r1 with
    | zero =>
      simp only [am_okB, Bool.and_eq_true, beq_iff_eq] at hokB
      obtain ⟨hnx, hcp⟩ := hokB
      have hst : Next k lv (vI x :: st) M kc ks := hst
      exact lv_ldc hx hb hown (am_const hts hcp) (am_dl hd0 hnx) (nxt hnx hst hW hlo)
    | succ r1 =>
      simp only [am_okB, Bool.and_eq_true, beq_iff_eq] at hokB
      obtain ⟨hnx, hcp⟩ := hokB
      have hst : Next k lv (vS r2 :: st) M kc ks := hst
      obtain ⟨t, ht⟩ := am_strr hcp
      exact va_ldcS hx hb hown (hC.2.2.1 r2 o j t ht) (am_dl hd0 hnx) (nxt hnx hst hW hlo)
  case ldc_w j =>
    cases r1 with
    | zero =>
      simp only [am_okB, Bool.and_eq_true, beq_iff_eq] at hokB
      obtain ⟨hnx, hcp⟩ := hokB
      have hst : Next k lv (vI x :: st) M kc ks := hst
      exact lv_ldcw hx hb hown (am_const hts hcp) (am_dl hd0 hnx) (nxt hnx hst hW hlo)
    | succ r1 =>
      simp only [am_okB, Bool.and_eq_true, beq_iff_eq] at hokB
      obtain ⟨hnx, hcp⟩ := hokB
      have hst : Next k lv (vS r2 :: st) M kc ks := hst
      obtain ⟨t, ht⟩ := am_strr hcp
      exact am_ldcSW hx hb hown (hC.2.2.1 r2 o j t ht) (am_dl hd0 hnx) (nxt hnx hst hW hlo)
  case invokevirtual j =>
    cases hsoft
  case invokestatic j =>
    cases hsoft
  case new j =>
    cases hsoft
  case ireturn =>
    cases hsoft
  case return_ =>
    cases hsoft
  all_goals exact hst.elim
end AMS
