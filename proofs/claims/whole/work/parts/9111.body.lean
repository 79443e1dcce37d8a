/-! A BODY: the machine's run of a method's rows is the frame's run of its code -/
theorem am_nms_len : am_nms.length = 2 := rfl
section AMT
variable {p : Program} {l : Launch} {e : Env} {R : Room} {s : State} {m : MethodId} {args : Array Value} {below : List Frame} {meth : Method} {c : Code} {Q : State → Prop} {cc : ByteArray} {nL o rt d : Nat} {full : List am_CE} {D : va_G} {cs : am_CS} {sA aV : Nat → Nat} {B : Nat} {X : Nat × (Nat → Int32)} {A : Nat → Prop}
variable {C : Nat → List AV → am_M → am_R → Prop} {hs : List (Nat × Nat × Nat)} {k : List am_CE} {lv : List (Option AV)} {st : List AV} {M : am_M} {kc ks : Nat}
set_option maxHeartbeats 8000000 in
/-- 'throw new E("text")' -/
theorem am_rowThr (hF : am_Fx p s m args c cc nL o rt full D cs sA aV B X A) (hl : l.stackTraces = false) {pc j nx r1 r2 : Nat} {x : Int32} {H : Heap} {locs : List Loc} {ls : Array Slot} (hsuf : am_suf full ((pc, .new j, nx, r1, r2, x) :: k)) (h3 : r2 ≠ 3) (hout : ∀ x ∈ c.exceptionTable.toList, False) (hlocks : meth.locks = false)
    (hR : 10 ≤ R.frames ∧ 1000 ≤ R.locals) (hcnt : kc + 1 ≤ R.cells ∧ ks + 6 ≤ R.slots) {Qc : Array Value → State → Outcome → State → Prop} {XC : String → State → State → Prop} {mc ms : Nat} {free : Addr → Prop} (hxc : ∀ t : State, s.vm.Alike t.vm → H.size ≤ t.heap.size → (∀ q : Nat, q < H.size → t.heap[q]? = H[q]?) → XC (am_en r2) s t)
    (hf : ∀ z ∈ locs, free z.base) (hmc : kc + 1 ≤ mc) (hms : ks + 6 ≤ ms) (hS : va_S A s.heap H locs) (hsz : ls.size = nL) (hsum : (st.map am_cat).sum ≤ 8) : W p l e R s m args below meth c H locs kc ks (vx_MQ below Qc XC args s mc ms free) (F0 m pc ls (st.map (am_v sA B))) := by
  obtain ⟨hx, hb, hml, hown, hts, hC, hA, hdec, hok⟩ := hF
  have hd0 := hdec _ (am_suf_mem hsuf)
  obtain ⟨hokB, hokN⟩ := am_okL_suf hsuf hok
  have hnx := am_next hokN
  simp only [am_okB] at hokB
  obtain ⟨⟨b1, b2⟩, hm1, hm2⟩ := am_lookup_any hokB
  simp only [beq_iff_eq] at hm2
  have hE5 : b1 < 5 := am_cpX_lt5 o (am_cpX_lt hm1) _ hm1
  have hlk : am_lk b2 = some (.classLink (am_cn o) j (am_en b1)) := am_cpX_ok o (am_cpX_lt hm1) _ hm1
  rw [hm2] at hE5 hlk
  have hk1 : (Cond.classLink (am_cn o) j (am_en r2)).before args s = true := hts _ (am_tk hlk rfl)
  have hi1 : (Cond.initialized (am_en r2)).before args s = true := hts _ (am_tk (am_en_ini r2 hE5) rfl)
  have hs1 := am_suf_tail hsuf
  have h2 := (Bool.and_eq_true _ _ |>.mp hokN).2
  simp only at h2
  split at h2
  · rename_i p1 n1 a1 c1 x1 p2 is n2 t1 t2 x2 p3 ic n3 a3 c3 x3 p4 n4 a4 c4 x4 k4
    simp only [Bool.and_eq_true, beq_iff_eq] at h2
    obtain ⟨⟨⟨⟨⟨e1, e2⟩, e3⟩, e4⟩, e5⟩, hcp⟩ := h2
    subst e1 e2 e3 e4 e5
    have hs2 := am_suf_tail hs1
    have hs3 := am_suf_tail hs2
    have hs4 := am_suf_tail hs3
    have hn0 : pc + 3 = nx := hnx (by simp)
    have o1 : n1 = pc + 3 + 1 := by simpa [am_okB] using (am_okL_suf hs1 hok).1
    have o2 := (am_okL_suf hs2 hok).1
    simp only [am_okB, Bool.and_eq_true, beq_iff_eq] at o2
    have o3 : n3 = pc + 6 + 3 := by simpa [am_okB] using (am_okL_suf hs3 hok).1
    have o4 : n4 = pc + 9 + 1 := by simpa [am_okB] using (am_okL_suf hs4 hok).1
    obtain ⟨tx, htx⟩ := am_strr o2.2
    obtain ⟨⟨g1, g2⟩, hg1, hg2⟩ := am_lookup_any hcp
    simp only [beq_iff_eq] at hg2
    have hthr : am_thrOK o ic g1 := am_thr_ok hg1 (by rw [hg2]; exact h3)
    rw [hg2] at hthr
    have ha1 := am_thr_hat hts hC hthr
    have hsz1 : ls.size = c.maxLocals := by rw [hsz, hml]
    have q0 := am_dl hd0 hn0.symm
    have q1 := am_dl (hdec _ (am_suf_mem hs1)) o1
    have q2 := am_dl (hdec _ (am_suf_mem hs2)) o2.1
    have q3 := am_dl (hdec _ (am_suf_mem hs3)) o3
    have q4 := am_dl (hdec _ (am_suf_mem hs4)) o4
    dsimp only at q0 q1 q2 q3 q4
    have hst1 := hC.2.2.1 t2 o is tx htx
    have hfit := am_en_fit r2 hE5
    have hg9 : ∀ w ∈ Cond.classLink (am_cn o) j (am_en r2) :: Cond.initialized (am_en r2) :: vx_atS (am_cn o) ic (am_en r2) am_nms, vx_ot w = true := by
      intro w hw
      rcases List.mem_cons.mp hw with rfl | hw
      · rfl
      · rcases List.mem_cons.mp hw with rfl | hw
        · rfl
        · exact am_ok_ot (List.all_eq_true.mp hthr.2 w hw)
    refine vx_throwS (own := am_cn o) (cls := am_en r2) (names := am_nms) (ik := j) (ic := ic) (mc := mc) (ms := ms) (sa := sA t2) (A := A) (is := is) (text := tx) hx hb hl hown hfit am_nms_fit hk1 hi1 hst1 ha1 hg9 hC.2.2.2.1 hC.2.2.2.2.1 hS hsz1 q0 q1 q2 q3 q4 (fun x hx => (hout x hx).elim) ?_ ?_ hcnt.1 hcnt.2 hlocks hxc hf hmc hms
    · rw [am_nms_len]
      omega
    · rw [am_sum, am_nms_len]
      omega
  · rename_i p1 n1 a1 c1 x1 p2 is n2 t1 t2 x2 p3 ic n3 a3 c3 x3 p4 n4 a4 c4 x4 k4
    simp only [Bool.and_eq_true, beq_iff_eq] at h2
    obtain ⟨⟨⟨⟨⟨e1, e2⟩, e3⟩, e4⟩, e5⟩, hcp⟩ := h2
    subst e1 e2 e3 e4 e5
    have hs2 := am_suf_tail hs1
    have hs3 := am_suf_tail hs2
    have hs4 := am_suf_tail hs3
    have hn0 : pc + 3 = nx := hnx (by simp)
    have o1 : n1 = pc + 3 + 1 := by simpa [am_okB] using (am_okL_suf hs1 hok).1
    have o2 := (am_okL_suf hs2 hok).1
    simp only [am_okB, Bool.and_eq_true, beq_iff_eq] at o2
    have o3 : n3 = pc + 7 + 3 := by simpa [am_okB] using (am_okL_suf hs3 hok).1
    have o4 : n4 = pc + 10 + 1 := by simpa [am_okB] using (am_okL_suf hs4 hok).1
    obtain ⟨tx, htx⟩ := am_strr o2.2
    obtain ⟨⟨g1, g2⟩, hg1, hg2⟩ := am_lookup_any hcp
    simp only [beq_iff_eq] at hg2
    have hthr : am_thrOK o ic g1 := am_thr_ok hg1 (by rw [hg2]; exact h3)
    rw [hg2] at hthr
    have ha1 := am_thr_hat hts hC hthr
    have hsz1 : ls.size = c.maxLocals := by rw [hsz, hml]
    have q0 := am_dl hd0 hn0.symm
    have q1 := am_dl (hdec _ (am_suf_mem hs1)) o1
    have q2 := am_dl (hdec _ (am_suf_mem hs2)) o2.1
    have q3 := am_dl (hdec _ (am_suf_mem hs3)) o3
    have q4 := am_dl (hdec _ (am_suf_mem hs4)) o4
    dsimp only at q0 q1 q2 q3 q4
    have hst1 := hC.2.2.1 t2 o is tx htx
    have hfit := am_en_fit r2 hE5
    have hg9 : ∀ w ∈ Cond.classLink (am_cn o) j (am_en r2) :: Cond.initialized (am_en r2) :: vx_atS (am_cn o) ic (am_en r2) am_nms, vx_ot w = true := by
      intro w hw
      rcases List.mem_cons.mp hw with rfl | hw
      · rfl
      · rcases List.mem_cons.mp hw with rfl | hw
        · rfl
        · exact am_ok_ot (List.all_eq_true.mp hthr.2 w hw)
    refine vx_throwSW (own := am_cn o) (cls := am_en r2) (names := am_nms) (ik := j) (ic := ic) (mc := mc) (ms := ms) (sa := sA t2) (A := A) (is := is) (text := tx) hx hb hl hown hfit am_nms_fit hk1 hi1 hst1 ha1 hg9 hC.2.2.2.1 hC.2.2.2.2.1 hS hsz1 q0 q1 q2 q3 q4 (fun x hx => (hout x hx).elim) ?_ ?_ hcnt.1 hcnt.2 hlocks hxc hf hmc hms
    · rw [am_nms_len]
      omega
    · rw [am_sum, am_nms_len]
      omega
  · cases h2
/-- System.arraycopy of ints -/
theorem am_rowCopy (hF : am_Fx p s m args c cc nL o rt full D cs sA aV B X A) {pc j nx r2 : Nat} {x : Int32} {H : Heap} {locs : List Loc} {ls : Array Slot} {Next : am_K} {End : am_R → Prop} (hN : ∀ k' lv' st' M' kc' ks', Next k' lv' st' M' kc' ks' → am_G p l e R s m args below meth c Q nL full D cs sA B A k' lv' st' M' kc' ks')
    (hsuf : am_suf full ((pc, .invokestatic j, nx, 0, r2, x) :: k)) (hR : 10 ≤ R.frames ∧ 1000 ≤ R.locals) (hst : am_stp X am_SL C full hs k (pc, .invokestatic j, nx, 0, r2, x) lv st M kc ks Next End) (hW : am_Wd D cs A s M H locs) (hlo : am_lo sA B ls nL lv) : W p l e R s m args below meth c H locs kc ks Q (F0 m pc ls (st.map (am_v sA B))) := by
  obtain ⟨hx, hb, hml, hown, hts, hC, hA, hdec, hok⟩ := hF
  have hd0 := hdec _ (am_suf_mem hsuf)
  obtain ⟨hokB, hokN⟩ := am_okL_suf hsuf hok
  simp only [am_okB, Bool.and_eq_true, beq_iff_eq] at hokB
  obtain ⟨hnx, hcp⟩ := hokB
  obtain ⟨⟨b1, b2⟩, hm1, hm2⟩ := am_lookup_any hcp
  simp only [beq_iff_eq] at hm2
  have hlk := (am_cpS_ok o (am_cpS_lt hm1) _ hm1).2.2 hm2
  obtain ⟨n, s1, e1, h1⟩ := am_pI_elim hst
  obtain ⟨dp, s2, e2, h2⟩ := am_pI_elim h1
  obtain ⟨b, s3, e3, h3⟩ := am_pR_elim h2
  obtain ⟨sp, s4, e4, h4⟩ := am_pI_elim h3
  obtain ⟨a, s5, e5, n0, n1, ha0, ha1, g1, g2, g3, g4, g5, hsum, h5⟩ := am_pR_elim h4
  clear hst h1 h2 h3 h4
  subst e5 e4 e3 e2 e1
  obtain ⟨q0, hq0⟩ := am_at (cs := cs) ha0
  obtain ⟨q1, hq1⟩ := am_at (cs := cs) ha1
  refine va_copyi hx hb (by rw [hml, hlo.1]) hown (hts _ (am_tk hlk rfl)) (hts (.native arraycopyName) (am_tk (i := 3043) (by decide +kernel) rfl)) (hts (.static arraycopyName) (am_tk (i := 3042) (by decide +kernel) rfl)) (hts (.initialized "java/lang/System") (am_tk (i := 1015) (by decide +kernel) rfl)) hC.1 hW.1 hW.2.1 hW.2.2.1 q0 q1 0 0 hq0 hq1 rfl rfl rfl g1 g2 g3 g4 g5 (fun i _ => rfl) (by omega) ?_ (am_dl hd0 hnx) (fun H1 locs1 hP hD hS => ?_)
  · rw [am_sum]
    show _ + (7 + 11) ≤ R.locals
    omega
  · have e9 : (am_W cs M).set q1 (b, am_cell cs (1, n1, (M.1.2.2 b).2.2) (va_cpy (M.2 a) (M.2 b) sp.toNatClampNeg dp.toNatClampNeg n.toNatClampNeg)) = am_W cs (am_row M b (va_cpy (M.2 a) (M.2 b) sp.toNatClampNeg dp.toNatClampNeg n.toNatClampNeg)) := by
      have hk' : ([] ++ va_pl M.1.2.1 (fun a => am_cell cs (M.1.2.2 a) (M.2 a)))[q1]? = some (b, am_cell cs (M.1.2.2 b) (M.2 b)) := by
        rw [am_sh ha1]
        exact hq1
      refine (va_pl_set (X := []) hW.2.1 ha1.1 hk').trans (va_pl_congr (fun z => ?_))
      by_cases hz : z = b
      · subst hz
        simp only [am_row, va_up_self]
        rw [← am_sh ha1]
      · simp only [am_row, va_up_ne _ _ hz]
    have hP' : va_P D am_cl ((am_W cs M).set q1 (b, am_cell cs (1, n1, (M.1.2.2 b).2.2) (va_cpy (M.2 a) (M.2 b) sp.toNatClampNeg dp.toNatClampNeg n.toNatClampNeg))) H1 := hP
    have hD' : va_D A ((am_W cs M).set q1 (b, am_cell cs (1, n1, (M.1.2.2 b).2.2) (va_cpy (M.2 a) (M.2 b) sp.toNatClampNeg dp.toNatClampNeg n.toNatClampNeg))) := hD
    rw [e9] at hP' hD'
    exact hN _ _ _ _ _ _ h5 _ _ _ _ (fun hk => (am_next hokN hk).trans hnx) (am_suf_tail hsuf) ⟨hP', hD', hS, fun n hn => by cases hn⟩ hlo
end AMT
