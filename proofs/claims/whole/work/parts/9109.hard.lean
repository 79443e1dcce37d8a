/-! ROWS THAT CALL -/
theorem am_recv_elim {c : Nat} {E : am_E} {args : List AV} (h : am_recv (c + 1) E args) : ∃ b as, args = vR b :: as ∧ am_A E b 0 c := by
  match args, h with
  | .inr (.inl b) :: as, h => exact ⟨b, as, rfl, h⟩
/-- what the machine's run of a callee gives -/
def am_CC (l : Launch) (D : va_G) (cs : am_CS) (sA aV : Nat → Nat) (B : Nat) (X : Nat × (Nat → Int32)) (d : Nat) (C : Nat → List AV → am_M → am_R → Prop) : Prop :=
  ∀ (y : Nat) (av : List AV) (M : am_M) (r : am_R), C y av M r → y < 319 → av.length = (am_in y).1 → am_recv (am_mt y).2.2.1 M.1 av ∧ am_Con l D cs sA aV B X d y av M r
section AMH
variable {p : Program} {l : Launch} {e : Env} {R : Room} {s : State} {m : MethodId} {args : Array Value} {below : List Frame} {meth : Method} {c : Code} {Q : State → Prop} {cc : ByteArray} {nL o rt d : Nat} {full : List am_CE} {D : va_G} {cs : am_CS} {sA aV : Nat → Nat} {B : Nat} {X : Nat × (Nat → Int32)} {A : Nat → Prop}
variable {C : Nat → List AV → am_M → am_R → Prop} {hs : List (Nat × Nat × Nat)} {Next : am_K} {End : am_R → Prop} {k : List am_CE} {lv : List (Option AV)} {st : List AV} {M : am_M} {kc ks : Nat}
theorem am_ret_cnt {rest : List AV} {r : am_R} (hNc : ∀ k' lv' st' M' kc' ks', Next k' lv' st' M' kc' ks' → kc' ≤ R.cells ∧ ks' ≤ R.slots) (hEc : ∀ r', End r' → r'.2.2.1 ≤ R.cells ∧ r'.2.2.2 ≤ R.slots) (h : am_ret full hs k lv rest kc ks Next End r) : kc + r.2.2.1 ≤ R.cells ∧ ks + r.2.2.2 ≤ R.slots := by
  unfold am_ret at h
  split at h
  · exact hNc _ _ _ _ _ _ h
  · split at h
    · exact hEc _ h
    · split at h
      · exact hNc _ _ _ _ _ _ h
      · exact h.elim
theorem am_ret_inl {rest : List AV} {r : am_R} {v : Option AV} (hv : r.2.1 = .inl v) (h : am_ret full hs k lv rest kc ks Next End r) : Next k lv (v.toList ++ rest) r.1 (kc + r.2.2.1) (ks + r.2.2.2) := by
  unfold am_ret at h
  rw [hv] at h
  exact h
theorem am_map_opt (v : Option AV) (rest : List AV) : (v.map (am_v sA B)).toList ++ rest.map (am_v sA B) = (v.toList ++ rest).map (am_v sA B) := by
  cases v <;> rfl
theorem am_stack {st as : List AV} {na : Nat} (h : (st.take na).reverse = as) : st = as.reverse ++ st.drop na := by
  rw [← h, List.reverse_reverse, List.take_append_drop]
/-- behind a call of the machine's -/
def am_KX (p : Program) (l : Launch) (e : Env) (R : Room) (s : State) (m : MethodId) (args : Array Value) (below : List Frame) (meth : Method) (c : Code) (Q : State → Prop) (nL : Nat) (full : List am_CE) (D : va_G) (cs : am_CS) (sA : Nat → Nat) (B : Nat) (A : Nat → Prop) (hs : List (Nat × Nat × Nat)) (Next : am_K) (End : am_R → Prop) (k : List am_CE) (lv : List (Option AV)) (pc kc ks : Nat) : Prop :=
  ∀ (rest : List AV) (r : am_R) (n : Nat) (H1 : Heap) (locs1 : List Loc) (q : Addr) (ce : Cell) (ls : Array Slot), r.2.1 = .inr n → am_ret full hs k lv rest kc ks Next End r → am_Wd D cs A s r.1 H1 locs1 → H1[q]? = some ce → ce.vm = .none → s.vm.findClass (am_en n) = some ce.cls → am_lo sA B ls nL lv →
    vx_W p l e R s m args below meth c H1 locs1 (kc + r.2.2.1) (ks + r.2.2.2) Q (F0 m pc ls (rest.map (am_v sA B))) q
theorem am_stepV (hF : am_Fx p s m args c cc nL o rt full D cs sA aV B X A) (hR : d + 11 ≤ R.frames ∧ 100 * (d + 11) ≤ R.locals) (hCC : am_CC l D cs sA aV B X d C)
    (hN : ∀ k' lv' st' M' kc' ks', Next k' lv' st' M' kc' ks' → am_G p l e R s m args below meth c Q nL full D cs sA B A k' lv' st' M' kc' ks') (hNc : ∀ k' lv' st' M' kc' ks', Next k' lv' st' M' kc' ks' → kc' ≤ R.cells ∧ ks' ≤ R.slots) (hEc : ∀ r', End r' → r'.2.2.1 ≤ R.cells ∧ r'.2.2.2 ≤ R.slots)
    {pc nx r1 r2 j : Nat} {x : Int32} (hlt : r2 < 319) (hsuf : am_suf full ((pc, .invokevirtual j, nx, r1 + 1, r2, x) :: k)) (hst : am_stp X am_SL C full hs k (pc, .invokevirtual j, nx, r1 + 1, r2, x) lv st M kc ks Next End) (kx : am_KX p l e R s m args below meth c Q nL full D cs sA B A hs Next End k lv pc kc ks) :
    am_G p l e R s m args below meth c Q nL full D cs sA B A ((pc, .invokevirtual j, nx, r1 + 1, r2, x) :: k) lv st M kc ks := by
  intro pc0 H locs ls hpc hsuf0 hW hlo
  obtain ⟨hx, hb, hml, hown, hts, hC, hA, hdec, hok⟩ := hF
  have hd0 := hdec _ (am_suf_mem hsuf)
  obtain ⟨hokB, hokN⟩ := am_okL_suf hsuf hok
  have hpc1 : pc = pc0 := hpc (by simp)
  subst hpc1
  simp only [am_okB, Bool.and_eq_true, beq_iff_eq] at hokB
  obtain ⟨hnx, ⟨hcp, hna⟩, hcl⟩ := hokB
  obtain ⟨hle, hsum, r, hcall, hret⟩ : am_call C full hs (r1 + 1) r2 k lv st M kc ks Next End := hst
  have hlen : ((st.take (r1 + 1)).reverse).length = (am_in r2).1 := by rw [List.length_reverse, List.length_take, hna]; omega
  obtain ⟨hrecv, hcon⟩ := hCC r2 _ M r hcall hlt hlen
  rw [hcl] at hrecv
  obtain ⟨b, as, hargs, hb0⟩ := am_recv_elim hrecv
  rw [hargs] at hcon hlen
  have hk0 : (am_mt r2).2.2.1 ≠ 0 := by rw [hcl]; omega
  obtain ⟨⟨b1, b2⟩, hm1, hm2⟩ := am_lookup_any hcp
  simp only [beq_iff_eq] at hm2
  subst hm2
  have hlk := am_cpM_ok o (am_cpM_lt hm1) _ hm1
  have hst2 := am_stack hargs
  obtain ⟨av, hrun⟩ := am_runV (R := R) (e := e) (below := below) (meth := meth) (p := p) (l := l) (cells := kc) (slots := ks) (ls := ls) (pc := pc) (st := st.drop (r1 + 1)) (d := d) hx hb hml hown hts hC hA hW hlt hk0 (am_tk hlk rfl) hlen hb0 (am_w_ci _ hlt hk0) hcon hR (am_ret_cnt hNc hEc hret) hlo.1 hsum (am_dl hd0 hnx)
  have hst3 : st.map (am_v sA B) = (as.map (am_v sA B)).reverse ++ .ref b :: (st.drop (r1 + 1)).map (am_v sA B) := by
    conv => lhs; rw [hst2]
    simp [am_v]
  rw [hst3]
  refine am_behind hA hW hrun (fun v H1 locs1 hv hw => ?_) (fun n H1 locs1 q ce hv hw h1 h2 h3 => kx _ r n H1 locs1 q ce ls hv hret hw h1 h2 h3 hlo)
  rw [am_map_opt]
  exact hN _ _ _ _ _ _ (am_ret_inl hv hret) _ _ _ _ (fun hk => (am_next hokN hk).trans hnx) (am_suf_tail hsuf) hw hlo
theorem am_stepS (hF : am_Fx p s m args c cc nL o rt full D cs sA aV B X A) (hR : d + 11 ≤ R.frames ∧ 100 * (d + 11) ≤ R.locals) (hCC : am_CC l D cs sA aV B X d C)
    (hN : ∀ k' lv' st' M' kc' ks', Next k' lv' st' M' kc' ks' → am_G p l e R s m args below meth c Q nL full D cs sA B A k' lv' st' M' kc' ks') (hNc : ∀ k' lv' st' M' kc' ks', Next k' lv' st' M' kc' ks' → kc' ≤ R.cells ∧ ks' ≤ R.slots) (hEc : ∀ r', End r' → r'.2.2.1 ≤ R.cells ∧ r'.2.2.2 ≤ R.slots)
    {pc nx r1 r2 j : Nat} {x : Int32} (hlt : r2 < 319) (hsuf : am_suf full ((pc, .invokestatic j, nx, r1 + 1, r2, x) :: k)) (hst : am_stp X am_SL C full hs k (pc, .invokestatic j, nx, r1 + 1, r2, x) lv st M kc ks Next End) (kx : am_KX p l e R s m args below meth c Q nL full D cs sA B A hs Next End k lv pc kc ks) :
    am_G p l e R s m args below meth c Q nL full D cs sA B A ((pc, .invokestatic j, nx, r1 + 1, r2, x) :: k) lv st M kc ks := by
  intro pc0 H locs ls hpc hsuf0 hW hlo
  obtain ⟨hx, hb, hml, hown, hts, hC, hA, hdec, hok⟩ := hF
  have hd0 := hdec _ (am_suf_mem hsuf)
  obtain ⟨hokB, hokN⟩ := am_okL_suf hsuf hok
  have hpc1 : pc = pc0 := hpc (by simp)
  subst hpc1
  simp only [am_okB, Bool.and_eq_true, Bool.or_eq_true, beq_iff_eq] at hokB
  obtain ⟨hnx, ⟨hcp, hna⟩, hcl⟩ := hokB
  obtain ⟨hle, hsum, r, hcall, hret⟩ : am_call C full hs (r1 + 1) r2 k lv st M kc ks Next End := hst
  have hlen : ((st.take (r1 + 1)).reverse).length = (am_in r2).1 := by rw [List.length_reverse, List.length_take, hna]; omega
  obtain ⟨hrecv, hcon⟩ := hCC r2 _ M r hcall hlt hlen
  have hl : Cond.methodLink (am_cn o) j (am_y r2) ∈ am_TG ∨ va_Nw (.methodLinkNest (am_cn o) j (am_y r2) "DayTables") s := by
    rcases hcp with hcp | hcp
    · obtain ⟨⟨b1, b2⟩, hm1, hm2⟩ := am_lookup_any hcp
      simp only [beq_iff_eq] at hm2
      subst hm2
      exact Or.inl (am_tk (am_cpM_ok o (am_cpM_lt hm1) _ hm1) rfl)
    · obtain ⟨⟨b1, b2⟩, hm1, hm2⟩ := am_lookup_any hcp
      simp only [beq_iff_eq] at hm2
      subst hm2
      exact Or.inr (hC.2.2.2.2.2.2.2.2.2.2 _ (am_lk_mem (am_cpN_ok o (am_cpN_lt hm1) _ hm1).2) rfl)
  obtain ⟨av, hrun⟩ := am_runS (R := R) (e := e) (below := below) (meth := meth) (p := p) (l := l) (cells := kc) (slots := ks) (ls := ls) (pc := pc) (st := st.drop (r1 + 1)) (d := d) hx hb hml hown hts hC hA hW hlt hcl hl hlen hcon hR (am_ret_cnt hNc hEc hret) hlo.1 hsum (am_dl hd0 hnx)
  have hst3 : st.map (am_v sA B) = (((st.take (r1 + 1)).reverse).map (am_v sA B)).reverse ++ (st.drop (r1 + 1)).map (am_v sA B) := by
    conv => lhs; rw [am_stack (st := st) (na := r1 + 1) rfl]
    simp
  rw [hst3]
  refine am_behind hA hW hrun (fun v H1 locs1 hv hw => ?_) (fun n H1 locs1 q ce hv hw h1 h2 h3 => kx _ r n H1 locs1 q ce ls hv hret hw h1 h2 h3 hlo)
  rw [am_map_opt]
  exact hN _ _ _ _ _ _ (am_ret_inl hv hret) _ _ _ _ (fun hk => (am_next hokN hk).trans hnx) (am_suf_tail hsuf) hw hlo
/-- length() of a string constant -/
theorem am_rowLen {pc j kx : Nat} {H : Heap} {locs : List Loc} {ls : Array Slot} {rest : List Value} (hx : p.tables.exec = Jvm.exec) (hb : c.code = cc) (hml : c.maxLocals = nL) (hown : s.vm.findClass (am_cn o) = some m.cls) (hts : ∀ w ∈ am_TG, w.before args s = true) (hC : am_Cx D cs sA aV B X A s) (hS : va_S A s.heap H locs) (hk : kx < am_sx.length) (hl : Cond.methodLink (am_cn o) j y_len ∈ am_TG)
    (hR : 10 ≤ R.frames ∧ 1000 ≤ R.locals) (hf : kc ≤ R.cells ∧ ks ≤ R.slots) (hsz : ls.size = nL) (hsum : (rest.map fun v => v.category).sum ≤ 8) (hdg : decode cc pc = .ok (.invokevirtual j, 3))
    (kk : W p l e R s m args below meth c H locs kc ks Q (F0 m (pc + 3) ls (.int (nI (am_SL kx).length) :: rest))) : W p l e R s m args below meth c H locs kc ks Q (F0 m pc ls (.ref (sA kx) :: rest)) := by
  have hstr := hC.2.1 kx hk
  have hq := hS.2.1
  refine W.callR (r := nI (am_SL kx).length) (W.runV (As := []) (rest := rest) (C := "java/lang/String") (n := 0) ⟨hx, hb, hml, hown, hts⟩ (c_len l kx (sA kx) (aV kx)) ⟨am_callB 0 hts wc_len wi_str hl rfl rfl (by decide +kernel) ⟨?_, ?_⟩, hts _ (am_tg (i := 765) (by decide +kernel) rfl), hts _ (am_tg (i := 766) (by decide +kernel) rfl)⟩ ⟨?_, ?_, fun U hU hW => ⟨rfl, ?_, ?_⟩⟩ rfl rfl hsz rfl (by show 2 * 0 + _ ≤ 8; omega) hdg hf) kk
  · show 2 + 1 ≤ R.frames
    omega
  · show 8 + (1 + 11) + 40 * 2 ≤ R.locals
    omega
  · intro a U g mk q
    obtain ⟨q1, ⟨q2, q3, q4, q5⟩, q6⟩ := q
    have ha := Vm.Alike.refl U.vm
    exact ⟨q1, ⟨va_O.moved (u := U) (U := U.calling g mk a) ha q2, va_OF.moved (u := U) (U := U.calling g mk a) ha q3, va_OF.moved (u := U) (U := U.calling g mk a) ha q4, va_T.moved (u := U) (U := U.calling g mk a) ha q5⟩, va_Z.moved (u := U) (U := U.calling g mk a) ha q6⟩
  · obtain ⟨cell, g1, g2, g3, -⟩ := hstr.1.kept hq
    exact ⟨cell, g1, g2, g3⟩
  · obtain ⟨g1, g2, g3, g4⟩ := hstr
    rw [hU]
    have ha := hW.alike
    exact ⟨((g1.moved ha).kept hq).narrow (fun _ h => h.elim), ((g2.moved ha).kept hq).narrow (fun _ h => h.elim), ((g3.moved ha).kept hq).narrow (fun _ h => h.elim), ((g4.moved ha).kept hq).narrow (fun _ h => h.elim)⟩
  · rw [hU]
    exact ((hC.2.2.2.2.2.1.moved hW.alike).kept hq).narrow (fun _ h => h.elim)
/-- charAt(i) of a string constant -/
theorem am_rowChr {pc j kx : Nat} {i : Int32} {H : Heap} {locs : List Loc} {ls : Array Slot} {rest : List Value} (hx : p.tables.exec = Jvm.exec) (hb : c.code = cc) (hml : c.maxLocals = nL) (hown : s.vm.findClass (am_cn o) = some m.cls) (hts : ∀ w ∈ am_TG, w.before args s = true) (hC : am_Cx D cs sA aV B X A s) (hS : va_S A s.heap H locs) (hk : kx < am_sx.length) (hi : vp_in i (am_SL kx).length) (hl : Cond.methodLink (am_cn o) j y_chr ∈ am_TG)
    (hR : 10 ≤ R.frames ∧ 1000 ≤ R.locals) (hf : kc ≤ R.cells ∧ ks ≤ R.slots) (hsz : ls.size = nL) (hsum : (rest.map fun v => v.category).sum ≤ 8) (hdg : decode cc pc = .ok (.invokevirtual j, 3))
    (kk : W p l e R s m args below meth c H locs kc ks Q (F0 m (pc + 3) ls (.int ((am_SL kx).getD i.toNatClampNeg 0) :: rest))) : W p l e R s m args below meth c H locs kc ks Q (F0 m pc ls (.int i :: .ref (sA kx) :: rest)) := by
  have hstr := hC.2.1 kx hk
  have hq := hS.2.1
  refine W.callR (r := (am_SL kx).getD i.toNatClampNeg 0) (W.runV (As := [.int i]) (rest := rest) (C := "java/lang/String") (n := 1) ⟨hx, hb, hml, hown, hts⟩ (c_chr l kx (sA kx) (aV kx) i hk hi) ⟨am_callB 1 hts wc_chr wi_str hl rfl rfl (by decide +kernel) ⟨?_, ?_⟩, hts _ (am_tg (i := 775) (by decide +kernel) rfl), hts _ (am_tg (i := 776) (by decide +kernel) rfl)⟩ ⟨?_, ?_, fun U hU hW => ⟨rfl, ?_, ?_, ?_⟩⟩ rfl rfl hsz rfl (by show 2 * 0 + _ ≤ 8; omega) hdg hf) kk
  · show 4 + 1 ≤ R.frames
    omega
  · show 8 + (2 + 11) + 40 * 4 ≤ R.locals
    omega
  · intro a U g mk q
    obtain ⟨q1, ⟨q2, q3, q4, q5⟩, q6, q7⟩ := q
    have ha := Vm.Alike.refl U.vm
    exact ⟨q1, ⟨va_O.moved (u := U) (U := U.calling g mk a) ha q2, va_OF.moved (u := U) (U := U.calling g mk a) ha q3, va_OF.moved (u := U) (U := U.calling g mk a) ha q4, va_T.moved (u := U) (U := U.calling g mk a) ha q5⟩, va_Z.moved (u := U) (U := U.calling g mk a) ha q6, va_Zq.moved (u := U) (U := U.calling g mk a) ha q7⟩
  · obtain ⟨cell, g1, g2, g3, -⟩ := hstr.1.kept hq
    exact ⟨cell, g1, g2, g3⟩
  · obtain ⟨g1, g2, g3, g4⟩ := hstr
    rw [hU]
    have ha := hW.alike
    exact ⟨((g1.moved ha).kept hq).narrow (fun _ h => h.elim), ((g2.moved ha).kept hq).narrow (fun _ h => h.elim), ((g3.moved ha).kept hq).narrow (fun _ h => h.elim), ((g4.moved ha).kept hq).narrow (fun _ h => h.elim)⟩
  · rw [hU]
    exact ((hC.2.2.2.2.2.1.moved hW.alike).kept hq).narrow (fun _ h => h.elim)
  · rw [hU]
    exact ((hC.2.2.2.2.2.2.1.moved hW.alike).kept hq).narrow (fun _ h => h.elim)
end AMH
