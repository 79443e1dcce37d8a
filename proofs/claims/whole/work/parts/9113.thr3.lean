/-! .. the row (follows vx_throwS, vx_throwSW of the kit) -/
section AMM
variable {p : Program} {l : Launch} {e : Env} {R : Room} {s : State} {m : MethodId} {args : Array Value} {below : List Frame} {meth : Method} {c : Code} {H : Heap} {locs : List Loc} {cells slots : Nat} {free : Addr → Prop} {ls : Array Slot} {rest : List Value} {Qc : Array Value → State → Outcome → State → Prop} {XC : String → State → State → Prop}
theorem am_thrN {cc : ByteArray} {pc : Nat} (hexec : p.tables.exec = Jvm.exec) (hb : c.code = cc) (hl : l.stackTraces = false) {own text : String} {ik is ic mc ms sa : Nat} {A : Nat → Prop}
    (hown : s.vm.findClass own = some m.cls)
    (hk : (Cond.classLink own ik am_nse).before args s = true) (hini : (Cond.initialized am_nse).before args s = true) (hstr : vk_R own is text sa s) (hat : ∀ w ∈ (am_atN own ic).filter vx_no, w.before args s = true)
    (hgood : ∀ w ∈ Cond.classLink own ik am_nse :: Cond.initialized am_nse :: (am_atN own ic).filter vx_no, vx_ot w = true)
    (hU : vx_Zq Bundle.tN "UNASSIGNED_STACK" Bundle.steD A s s.heap) (hN : vx_Zq Bundle.tN "SUPPRESSED_SENTINEL" Bundle.listD A s s.heap) (hS : va_S A s.heap H locs) (hsize : ls.size = c.maxLocals)
    (d0 : decode cc pc = .ok (.new ik, 3)) (d3 : decode cc (pc + 3) = .ok (.dup, 1)) (d4 : decode cc (pc + 4) = .ok (.ldc is, 2)) (d6 : decode cc (pc + 6) = .ok (.invokespecial ic, 3)) (d9 : decode cc (pc + 9) = .ok (.athrow, 1))
    (hout : ∀ x ∈ c.exceptionTable.toList, covers x (pc + 9) = false)
    (hRframes : 2 + 3 < R.frames) (hRlocals : (rest.map fun v => v.category).sum + (13 * (2 + 1) + 43) ≤ R.locals) (hRcells : cells + 1 ≤ R.cells) (hRslots : slots + 6 ≤ R.slots) (hlocks : meth.locks = false)
    (hx : ∀ t : State, s.vm.Alike t.vm → H.size ≤ t.heap.size → (∀ q : Nat, q < H.size → t.heap[q]? = H[q]?) → XC am_nse s t)
    (hf : ∀ z ∈ locs, free z.base) (hc : cells + 1 ≤ mc) (hs : slots + 6 ≤ ms) :
    W p l e R s m args below meth c H locs cells slots (vx_MQ below Qc XC args s mc ms free) (F0 m pc ls rest) := by
  intro T hT X
  have htr : e.platform.stackTraces = false := (show e.platform.stackTraces = l.stackTraces by rw [X.admits.platform]).trans hl
  have Y := vx_rebase X (R' := { frames := R.frames, locals := R.locals, cells := 1, slots := 6 }) (Nat.le_refl _) (Nat.le_refl _) hRcells hRslots
  obtain ⟨s', hA⟩ : ∃ z, z = (T.setVm s.vm).setFrames (.invoking m args :: below) := ⟨_, rfl⟩
  rw [← hA] at Y
  have hvm : s'.vm = s.vm := by rw [hA]; rfl
  have hhp : s'.heap = H := by rw [hA]; exact hT
  have hW0 : s.WarmedH s'.vm := by rw [hvm]; exact State.WarmedH.refl s
  have hat' : ∀ w ∈ (am_atN own ic).filter vx_no, w.before args s' = true := fun w hw => vx_ot_at hW0 hvm.symm (hgood w (List.mem_cons_of_mem _ (List.mem_cons_of_mem _ hw))) (hat w hw)
  have hk' : (Cond.classLink own ik am_nse).before args s' = true := vx_ot_at hW0 hvm.symm (hgood _ List.mem_cons_self) hk
  have hini' : (Cond.initialized am_nse).before args s' = true := vx_ot_at hW0 hvm.symm (hgood _ (List.mem_cons_of_mem _ List.mem_cons_self)) hini
  have hU' : vx_Zq Bundle.tN "UNASSIGNED_STACK" Bundle.steD A s' s'.heap := by rw [hhp]; exact vx_Zq.moved hW0.alike (hU.kept hS.2.1)
  have hN' : vx_Zq Bundle.tN "SUPPRESSED_SENTINEL" Bundle.listD A s' s'.heap := by rw [hhp]; exact vx_Zq.moved hW0.alike (hN.kept hS.2.1)
  have h : ∀ w ∈ am_atN own ic, w.before args s' = true := vx_own hat' (vx_isRefq hU'.1) (vx_isRefq hN'.1) hU'.2.word hN'.2.word
  have hown' : s'.vm.findClass own = some m.cls := by rw [hvm]; exact hown
  have hins : (Cond.instantiable am_nse 6).before args s' = true := h _ (by simp [am_atN])
  obtain ⟨vm₁, cX, kX, hfX, hkX, -, -, X₁, st1⟩ := Y.newCold hexec (own := own) (C := am_nse) (index := ik) (n := 6) hown' hk' hins hini'
    (g := F0 m pc ls rest) rfl (by rw [hb]; exact d0) (Nat.le_refl _) (Nat.le_refl _)
  generalize hT1 : (T.setVm vm₁).pushCell { cls := cX, slots := kX.instanceTypes.map defaultValue, vm := .none } = T1 at X₁ st1
  have hcat : (Value.ref T.heap.size).category = 1 := rfl
  have hcellA : T1.heap[T.heap.size]? = some (freshCell cX kX) := by rw [← hT1]; exact State.heap_pushCell_size _ _
  have d3' : decode c.code (pc + 3) = .ok (.dup, 1) := by rw [hb]; exact d3
  have d4' : decode c.code (pc + 4) = .ok (.ldc is, 2) := by rw [hb]; exact d4
  have hstr' : vk_R own is text sa s' := vk_R.warm hW0 hstr
  obtain ⟨U, hsteps, hrun, hend, hW, hsame, ce, hce, hO⟩ := am_ctorN X₁ hexec htr (own := own) (ic := ic) hown' h (fun x hx => nomatch hx) hfX hkX hcellA (by rw [hhp, hT]; exact Nat.le_refl _) (msg := .ref sa) rfl
    (g := { method := m, pc := pc + 6, locals := ls, stack := .ref sa :: .ref T.heap.size :: .ref T.heap.size :: rest, locked := none }) rfl hsize rfl rfl (rest := rest) rfl
    (by rw [hb]; exact d6) (by rw [hb]; exact d9) hout hRframes (by simp only [List.map_cons, List.sum_cons, hcat]; omega) hlocks
  obtain ⟨f1, f2⟩ := vx_frame hsame
  rw [hhp] at f1 f2
  have hWs : s.WarmedH U.vm := State.WarmedH.trans hW0 hW
  have hcl : s.vm.findClass am_nse = some ce.cls := by
    have h9 := hO.2
    rw [hvm] at h9
    exact h9
  have hall : s.sameButNew ({ U with vm := s.vm } : State) locs mc ms := by
    subst hA
    obtain ⟨e1, e2⟩ := hsame
    rw [State.setFrames_setFrames] at e1
    have h2 : (T.setVm s.vm).sameButNew ({ U with vm := s.vm } : State) [] (0 + 1) (0 + 6) := ⟨e1, e2⟩
    have h3 := X.same.trans h2
    rw [List.append_nil] at h3
    exact h3.mono hc hs
  refine ⟨U, ?_, .threw T.heap.size, hrun, hend, Or.inr ⟨T.heap.size, rfl, am_nse, ce, locs, hx U hWs.alike f1 (fun q hq => f2 q hq (fun z hz => nomatch hz)), hce, hO.1, hcl, hWs, hall, hf⟩⟩
  refine st1 _ ?_
  show Steps p.tables e below (T1.setTop { method := m, pc := pc + 3, locals := ls, stack := .ref T.heap.size :: rest, locked := none }) _
  jvm_step X₁.here [X₁.here.top, hexec, d3', Value.category]
  exact X₁.ldcString hexec (own := own) (text := text) (index := is) (a := sa) hown' hstr'.1 hstr'.2
    (g := { method := m, pc := pc + 4, locals := ls, stack := .ref T.heap.size :: .ref T.heap.size :: rest, locked := none }) rfl d4' _ hsteps
theorem am_thrNW {cc : ByteArray} {pc : Nat} (hexec : p.tables.exec = Jvm.exec) (hb : c.code = cc) (hl : l.stackTraces = false) {own text : String} {ik is ic mc ms sa : Nat} {A : Nat → Prop}
    (hown : s.vm.findClass own = some m.cls)
    (hk : (Cond.classLink own ik am_nse).before args s = true) (hini : (Cond.initialized am_nse).before args s = true) (hstr : vk_R own is text sa s) (hat : ∀ w ∈ (am_atN own ic).filter vx_no, w.before args s = true)
    (hgood : ∀ w ∈ Cond.classLink own ik am_nse :: Cond.initialized am_nse :: (am_atN own ic).filter vx_no, vx_ot w = true)
    (hU : vx_Zq Bundle.tN "UNASSIGNED_STACK" Bundle.steD A s s.heap) (hN : vx_Zq Bundle.tN "SUPPRESSED_SENTINEL" Bundle.listD A s s.heap) (hS : va_S A s.heap H locs) (hsize : ls.size = c.maxLocals)
    (d0 : decode cc pc = .ok (.new ik, 3)) (d3 : decode cc (pc + 3) = .ok (.dup, 1)) (d4 : decode cc (pc + 4) = .ok (.ldc_w is, 3)) (d7 : decode cc (pc + 7) = .ok (.invokespecial ic, 3)) (d10 : decode cc (pc + 10) = .ok (.athrow, 1))
    (hout : ∀ x ∈ c.exceptionTable.toList, covers x (pc + 10) = false)
    (hRframes : 2 + 3 < R.frames) (hRlocals : (rest.map fun v => v.category).sum + (13 * (2 + 1) + 43) ≤ R.locals) (hRcells : cells + 1 ≤ R.cells) (hRslots : slots + 6 ≤ R.slots) (hlocks : meth.locks = false)
    (hx : ∀ t : State, s.vm.Alike t.vm → H.size ≤ t.heap.size → (∀ q : Nat, q < H.size → t.heap[q]? = H[q]?) → XC am_nse s t)
    (hf : ∀ z ∈ locs, free z.base) (hc : cells + 1 ≤ mc) (hs : slots + 6 ≤ ms) :
    W p l e R s m args below meth c H locs cells slots (vx_MQ below Qc XC args s mc ms free) (F0 m pc ls rest) := by
  intro T hT X
  have htr : e.platform.stackTraces = false := (show e.platform.stackTraces = l.stackTraces by rw [X.admits.platform]).trans hl
  have Y := vx_rebase X (R' := { frames := R.frames, locals := R.locals, cells := 1, slots := 6 }) (Nat.le_refl _) (Nat.le_refl _) hRcells hRslots
  obtain ⟨s', hA⟩ : ∃ z, z = (T.setVm s.vm).setFrames (.invoking m args :: below) := ⟨_, rfl⟩
  rw [← hA] at Y
  have hvm : s'.vm = s.vm := by rw [hA]; rfl
  have hhp : s'.heap = H := by rw [hA]; exact hT
  have hW0 : s.WarmedH s'.vm := by rw [hvm]; exact State.WarmedH.refl s
  have hat' : ∀ w ∈ (am_atN own ic).filter vx_no, w.before args s' = true := fun w hw => vx_ot_at hW0 hvm.symm (hgood w (List.mem_cons_of_mem _ (List.mem_cons_of_mem _ hw))) (hat w hw)
  have hk' : (Cond.classLink own ik am_nse).before args s' = true := vx_ot_at hW0 hvm.symm (hgood _ List.mem_cons_self) hk
  have hini' : (Cond.initialized am_nse).before args s' = true := vx_ot_at hW0 hvm.symm (hgood _ (List.mem_cons_of_mem _ List.mem_cons_self)) hini
  have hU' : vx_Zq Bundle.tN "UNASSIGNED_STACK" Bundle.steD A s' s'.heap := by rw [hhp]; exact vx_Zq.moved hW0.alike (hU.kept hS.2.1)
  have hN' : vx_Zq Bundle.tN "SUPPRESSED_SENTINEL" Bundle.listD A s' s'.heap := by rw [hhp]; exact vx_Zq.moved hW0.alike (hN.kept hS.2.1)
  have h : ∀ w ∈ am_atN own ic, w.before args s' = true := vx_own hat' (vx_isRefq hU'.1) (vx_isRefq hN'.1) hU'.2.word hN'.2.word
  have hown' : s'.vm.findClass own = some m.cls := by rw [hvm]; exact hown
  have hins : (Cond.instantiable am_nse 6).before args s' = true := h _ (by simp [am_atN])
  obtain ⟨vm₁, cX, kX, hfX, hkX, -, -, X₁, st1⟩ := Y.newCold hexec (own := own) (C := am_nse) (index := ik) (n := 6) hown' hk' hins hini'
    (g := F0 m pc ls rest) rfl (by rw [hb]; exact d0) (Nat.le_refl _) (Nat.le_refl _)
  generalize hT1 : (T.setVm vm₁).pushCell { cls := cX, slots := kX.instanceTypes.map defaultValue, vm := .none } = T1 at X₁ st1
  have hcat : (Value.ref T.heap.size).category = 1 := rfl
  have hcellA : T1.heap[T.heap.size]? = some (freshCell cX kX) := by rw [← hT1]; exact State.heap_pushCell_size _ _
  have d3' : decode c.code (pc + 3) = .ok (.dup, 1) := by rw [hb]; exact d3
  have d4' : decode c.code (pc + 4) = .ok (.ldc_w is, 3) := by rw [hb]; exact d4
  have hstr' : vk_R own is text sa s' := vk_R.warm hW0 hstr
  obtain ⟨U, hsteps, hrun, hend, hW, hsame, ce, hce, hO⟩ := am_ctorN X₁ hexec htr (own := own) (ic := ic) hown' h (fun x hx => nomatch hx) hfX hkX hcellA (by rw [hhp, hT]; exact Nat.le_refl _) (msg := .ref sa) rfl
    (g := { method := m, pc := pc + 7, locals := ls, stack := .ref sa :: .ref T.heap.size :: .ref T.heap.size :: rest, locked := none }) rfl hsize rfl rfl (rest := rest) rfl
    (by rw [hb]; exact d7) (by rw [hb]; exact d10) hout hRframes (by simp only [List.map_cons, List.sum_cons, hcat]; omega) hlocks
  obtain ⟨f1, f2⟩ := vx_frame hsame
  rw [hhp] at f1 f2
  have hWs : s.WarmedH U.vm := State.WarmedH.trans hW0 hW
  have hcl : s.vm.findClass am_nse = some ce.cls := by
    have h9 := hO.2
    rw [hvm] at h9
    exact h9
  have hall : s.sameButNew ({ U with vm := s.vm } : State) locs mc ms := by
    subst hA
    obtain ⟨e1, e2⟩ := hsame
    rw [State.setFrames_setFrames] at e1
    have h2 : (T.setVm s.vm).sameButNew ({ U with vm := s.vm } : State) [] (0 + 1) (0 + 6) := ⟨e1, e2⟩
    have h3 := X.same.trans h2
    rw [List.append_nil] at h3
    exact h3.mono hc hs
  refine ⟨U, ?_, .threw T.heap.size, hrun, hend, Or.inr ⟨T.heap.size, rfl, am_nse, ce, locs, hx U hWs.alike f1 (fun q hq => f2 q hq (fun z hz => nomatch hz)), hce, hO.1, hcl, hWs, hall, hf⟩⟩
  refine st1 _ ?_
  show Steps p.tables e below (T1.setTop { method := m, pc := pc + 3, locals := ls, stack := .ref T.heap.size :: rest, locked := none }) _
  jvm_step X₁.here [X₁.here.top, hexec, d3', Value.category]
  exact X₁.ldcStringW hexec (own := own) (text := text) (index := is) (a := sa) hown' hstr'.1 hstr'.2
    (g := { method := m, pc := pc + 4, locals := ls, stack := .ref T.heap.size :: .ref T.heap.size :: rest, locked := none }) rfl d4' _ hsteps
end AMM
theorem am_thr_N : (am_atN (am_cn 11) 189).filter vx_no = ([1020, 3206, 3215, 3221, 3224, 3226, 3207, 3208, 1036, 1037, 3209, 3214, 3222, 4002, 3196, 4003, 3198, 4004, 3200, 3210, 3212, 3202, 3238, 3239, 4001, 3202, 5062, 5063, 5064, 3232, 3188, 3232, 3233, 3234, 3235, 3190, 3235, 3236, 3237, 3238, 3192, 5061, 5052, 5053, 5054, 3220, 5055, 5056, 5057, 5058, 3205, 3204, 5059] : List Nat).filterMap am_lk := by decide +kernel
theorem am_thg_N : ((am_atN (am_cn 11) 189).filter vx_no).all (fun w => goodWord w || am_isB w) = true := by decide +kernel
theorem am_cpC_3 {o : Nat} {q : Nat × Nat × Nat} (h : q ∈ am_cpC o) (h3 : q.2.1 = 3) : o = 11 ∧ q.1 = 189 := by
  have ho : o < 17 := by
    rcases Nat.lt_or_ge o 17 with h1 | h1
    · exact h1
    · rw [show am_cpC o = [] from am_getD_nil (by simpa using h1)] at h
      cases h
  have h4 : ∀ o, o < 17 → ∀ q ∈ am_cpC o, q.2.1 = 3 → o = 11 ∧ q.1 = 189 := by decide +kernel
  exact h4 o ho q h h3
theorem am_thr_hatN {s : State} {args : Array Value} {D : va_G} {cs : am_CS} {sA aV : Nat → Nat} {B : Nat} {X : Nat × (Nat → Int32)} {A : Nat → Prop} (hts : ∀ w ∈ am_TG, w.before args s = true) (hC : am_Cx D cs sA aV B X A s) : ∀ w ∈ (am_atN (am_cn 11) 189).filter vx_no, w.before args s = true := by
  intro w hw
  have hg := List.all_eq_true.mp am_thg_N w hw
  rw [am_thr_N] at hw
  obtain ⟨i, -, hi⟩ := List.mem_filterMap.mp hw
  have hm := am_lk_mem hi
  rcases Bool.or_eq_true_iff.mp hg with hg | hg
  · exact hts w (List.mem_filter.mpr ⟨hm, hg⟩)
  · exact va_Nw.use (by cases w <;> first | (simp [am_isB] at hg; done) | rfl) (hC.2.2.2.2.2.2.2.2.2.2 w hm hg)
section AM3
variable {p : Program} {l : Launch} {e : Env} {R : Room} {s : State} {m : MethodId} {args : Array Value} {below : List Frame} {meth : Method} {c : Code} {Q : State → Prop} {cc : ByteArray} {nL o rt d : Nat} {full : List am_CE} {D : va_G} {cs : am_CS} {sA aV : Nat → Nat} {B : Nat} {X : Nat × (Nat → Int32)} {A : Nat → Prop}
variable {C : Nat → List AV → am_M → am_R → Prop} {hs : List (Nat × Nat × Nat)} {k : List am_CE} {lv : List (Option AV)} {st : List AV} {M : am_M} {kc ks : Nat}
set_option maxHeartbeats 8000000 in
/-- 'throw new NoSuchElementException("text")' -/
theorem am_rowThr3 (hF : am_Fx p s m args c cc nL o rt full D cs sA aV B X A) (hl : l.stackTraces = false) {pc j nx r1 r2 : Nat} {x : Int32} {H : Heap} {locs : List Loc} {ls : Array Slot} (hsuf : am_suf full ((pc, .new j, nx, r1, r2, x) :: k)) (h3 : r2 = 3) (hout : ∀ x ∈ c.exceptionTable.toList, False) (hlocks : meth.locks = false)
    (hR : 10 ≤ R.frames ∧ 1000 ≤ R.locals) (hcnt : kc + 1 ≤ R.cells ∧ ks + 6 ≤ R.slots) {Qc : Array Value → State → Outcome → State → Prop} {XC : String → State → State → Prop} {mc ms : Nat} {free : Addr → Prop} (hxc : ∀ t : State, s.vm.Alike t.vm → H.size ≤ t.heap.size → (∀ q : Nat, q < H.size → t.heap[q]? = H[q]?) → XC (am_en r2) s t)
    (hf : ∀ z ∈ locs, free z.base) (hmc : kc + 1 ≤ mc) (hms : ks + 6 ≤ ms) (hS : va_S A s.heap H locs) (hsz : ls.size = nL) (hsum : (st.map am_cat).sum ≤ 8) : W p l e R s m args below meth c H locs kc ks (vx_MQ below Qc XC args s mc ms free) (F0 m pc ls (st.map (am_v sA B))) := by
  obtain ⟨hx, hb, hml, hown, hts, hC, hA, hdec, hok⟩ := hF
  have hd0 := hdec _ (am_suf_mem hsuf)
  obtain ⟨hokB, hokN⟩ := am_okL_suf hsuf hok
  have hnx := am_next hokN
  simp only [am_okB] at hokB
  obtain ⟨⟨b1, b2⟩, hm1, hm2⟩ := am_lookup_any hokB
  simp only [beq_iff_eq] at hm2
  have hE5 : b1 < 5 := am_cpX_lt5 o (am_cpX_lt hm1) _ hm1
  have hlk : am_lk b2 = some (.classLink (am_cn o) j (am_en b1)) := am_cpX_ok o (am_cpX_lt hm1) _ hm1
  rw [hm2] at hE5 hlk
  have hk1 : (Cond.classLink (am_cn o) j (am_en r2)).before args s = true := hts _ (am_tk hlk rfl)
  have hi1 : (Cond.initialized (am_en r2)).before args s = true := hts _ (am_tk (am_en_ini r2 hE5) rfl)
  have e3 : am_en r2 = am_nse := by rw [h3]; rfl
  rw [e3] at hk1 hi1 hxc
  have hs1 := am_suf_tail hsuf
  have h2 := (Bool.and_eq_true _ _ |>.mp hokN).2
  simp only at h2
  split at h2
  · rename_i p1 n1 a1 c1 x1 p2 is n2 t1 t2 x2 p3 ic n3 a3 c3 x3 p4 n4 a4 c4 x4 k4
    simp only [Bool.and_eq_true, beq_iff_eq] at h2
    obtain ⟨⟨⟨⟨⟨e1, e2⟩, e3⟩, e4⟩, e5⟩, hcp⟩ := h2
    subst e1 e2 e3 e4 e5
    have hs2 := am_suf_tail hs1
    have hs3 := am_suf_tail hs2
    have hs4 := am_suf_tail hs3
    have hn0 : pc + 3 = nx := hnx (by simp)
    have o1 : n1 = pc + 3 + 1 := by simpa [am_okB] using (am_okL_suf hs1 hok).1
    have o2 := (am_okL_suf hs2 hok).1
    simp only [am_okB, Bool.and_eq_true, beq_iff_eq] at o2
    have o3 : n3 = pc + 6 + 3 := by simpa [am_okB] using (am_okL_suf hs3 hok).1
    have o4 : n4 = pc + 9 + 1 := by simpa [am_okB] using (am_okL_suf hs4 hok).1
    obtain ⟨tx, htx⟩ := am_strr o2.2
    obtain ⟨⟨g1, g2⟩, hg1, hg2⟩ := am_lookup_any hcp
    simp only [beq_iff_eq] at hg2
    obtain ⟨ho, hic⟩ := am_cpC_3 hg1 (by show g1 = 3; rw [hg2]; exact h3)
    have hic : ic = 189 := hic
    subst ho
    subst hic
    have ha1 := am_thr_hatN hts hC
    have hsz1 : ls.size = c.maxLocals := by rw [hsz, hml]
    have q0 := am_dl hd0 hn0.symm
    have q1 := am_dl (hdec _ (am_suf_mem hs1)) o1
    have q2 := am_dl (hdec _ (am_suf_mem hs2)) o2.1
    have q3 := am_dl (hdec _ (am_suf_mem hs3)) o3
    have q4 := am_dl (hdec _ (am_suf_mem hs4)) o4
    dsimp only at q0 q1 q2 q3 q4
    have hst1 := hC.2.2.1 t2 _ is tx htx
    have hg9 : ∀ w ∈ Cond.classLink (am_cn 11) j am_nse :: Cond.initialized am_nse :: (am_atN (am_cn 11) 189).filter vx_no, vx_ot w = true := by
      intro w hw
      rcases List.mem_cons.mp hw with rfl | hw
      · rfl
      · rcases List.mem_cons.mp hw with rfl | hw
        · rfl
        · exact am_ok_ot (List.all_eq_true.mp am_thg_N w hw)
    refine am_thrN (own := am_cn 11) (ik := j) (ic := 189) (mc := mc) (ms := ms) (sa := sA t2) (A := A) (is := is) (text := tx) hx hb hl hown hk1 hi1 hst1 ha1 hg9 hC.2.2.2.1 hC.2.2.2.2.1 hS hsz1 q0 q1 q2 q3 q4 (fun x hx => (hout x hx).elim) ?_ ?_ hcnt.1 hcnt.2 hlocks hxc hf hmc hms
    · omega
    · rw [am_sum]
      omega
  · rename_i p1 n1 a1 c1 x1 p2 is n2 t1 t2 x2 p3 ic n3 a3 c3 x3 p4 n4 a4 c4 x4 k4
    simp only [Bool.and_eq_true, beq_iff_eq] at h2
    obtain ⟨⟨⟨⟨⟨e1, e2⟩, e3⟩, e4⟩, e5⟩, hcp⟩ := h2
    subst e1 e2 e3 e4 e5
    have hs2 := am_suf_tail hs1
    have hs3 := am_suf_tail hs2
    have hs4 := am_suf_tail hs3
    have hn0 : pc + 3 = nx := hnx (by simp)
    have o1 : n1 = pc + 3 + 1 := by simpa [am_okB] using (am_okL_suf hs1 hok).1
    have o2 := (am_okL_suf hs2 hok).1
    simp only [am_okB, Bool.and_eq_true, beq_iff_eq] at o2
    have o3 : n3 = pc + 7 + 3 := by simpa [am_okB] using (am_okL_suf hs3 hok).1
    have o4 : n4 = pc + 10 + 1 := by simpa [am_okB] using (am_okL_suf hs4 hok).1
    obtain ⟨tx, htx⟩ := am_strr o2.2
    obtain ⟨⟨g1, g2⟩, hg1, hg2⟩ := am_lookup_any hcp
    simp only [beq_iff_eq] at hg2
    obtain ⟨ho, hic⟩ := am_cpC_3 hg1 (by show g1 = 3; rw [hg2]; exact h3)
    have hic : ic = 189 := hic
    subst ho
    subst hic
    have ha1 := am_thr_hatN hts hC
    have hsz1 : ls.size = c.maxLocals := by rw [hsz, hml]
    have q0 := am_dl hd0 hn0.symm
    have q1 := am_dl (hdec _ (am_suf_mem hs1)) o1
    have q2 := am_dl (hdec _ (am_suf_mem hs2)) o2.1
    have q3 := am_dl (hdec _ (am_suf_mem hs3)) o3
    have q4 := am_dl (hdec _ (am_suf_mem hs4)) o4
    dsimp only at q0 q1 q2 q3 q4
    have hst1 := hC.2.2.1 t2 _ is tx htx
    have hg9 : ∀ w ∈ Cond.classLink (am_cn 11) j am_nse :: Cond.initialized am_nse :: (am_atN (am_cn 11) 189).filter vx_no, vx_ot w = true := by
      intro w hw
      rcases List.mem_cons.mp hw with rfl | hw
      · rfl
      · rcases List.mem_cons.mp hw with rfl | hw
        · rfl
        · exact am_ok_ot (List.all_eq_true.mp am_thg_N w hw)
    refine am_thrNW (own := am_cn 11) (ik := j) (ic := 189) (mc := mc) (ms := ms) (sa := sA t2) (A := A) (is := is) (text := tx) hx hb hl hown hk1 hi1 hst1 ha1 hg9 hC.2.2.2.1 hC.2.2.2.2.1 hS hsz1 q0 q1 q2 q3 q4 (fun x hx => (hout x hx).elim) ?_ ?_ hcnt.1 hcnt.2 hlocks hxc hf hmc hms
    · omega
    · rw [am_sum]
      omega
  · cases h2
end AM3
