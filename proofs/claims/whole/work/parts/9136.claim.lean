/-! THE CLAIM OUT OF ONE WALK OF THE LAW'S BODY. Your part is whole_start (and what it stands on); all else here is the same for every law, but numbers. -/
def R_law : String := "DayTablesLaw"
def lw_P (b : Addr) (xs : List Int32) (args : Array Value) (s : State) : Prop := args = #[.ref b] ∧ s.IntsAt b xs ∧ xs.length ≤ 3072 ∧ (Jvm.Cond.and given_1 narrow_1).before args s = true
def lw_Q (_ : Array Value) (s : State) (o : Outcome) (t : State) : Prop := o = .returned (some (.int 1)) ∧ Framed s o t [] 601024 7293034
def lw_Z (below : List Frame) (a : Array Value) (s : State) : State → Prop := fun t => ∃ o, t.status = .running ∧ Ended t below o ∧ lw_Q a s o t
/-- the law's own end, with 1 on the stack, nothing written that was there before, its room as the claim has it -/
theorem lw_ret {p : Program} {l : Launch} {e : Env} {s : State} {m : MethodId} {below : List Frame} {meth : Method} {c : Code} {b : Nat} (hx : p.tables.exec = Jvm.exec) (hb : c.code = code) (hr : meth.sig.returnType = ret) (hlocks : meth.locks = false) {pc : Nat} {H : Heap} {ls : Array Slot} (hdg : decode code pc = .ok (.ireturn, 1)) : W p l e room_1 s m #[Value.ref b] below meth c H [] 601024 7293034 (lw_Z below #[Value.ref b] s) (F0 m pc ls [.int 1]) := by
  intro T hT X
  obtain ⟨fs, hret, hrun, hended, hW, hframe⟩ := X.leave (v := some (.int 1)) (hlocks := hlocks) (fun h => by rw [hr] at h; cases h)
  have hmeth' : T.vm.method? m = some meth := X.method'
  refine ⟨T.setFrames fs, ?_, .returned (some (.int 1)), hrun, hended, rfl, ⟨_, rfl⟩, hW, hframe⟩
  jvm_step X.here [X.here.top, hx, hb, hdg, hmeth', hr, ret, narrow_b1]
  (try refine ⟨rfl, ?_⟩); (try refine ⟨rfl, ?_⟩)
  first | (intro acts; rw [hret _ acts rfl rfl rfl]) | rw [hret _ _ rfl rfl rfl]
  exact Steps.refl _
/-- what holds at the law's entry: the machine, the code, the tables' words (any of lw_tbl by 'hts w (by decide +kernel)'), the script of L ints xs at the cell b, what the Statement gives of the start (any of its parts by flat_of_before) -/
def lw_At (p : Program) (s : State) (m : MethodId) (meth : Method) (c : Code) (b L : Nat) (xs : Nat → Int32) : Prop :=
  p.tables.exec = Jvm.exec ∧ c.code = code ∧ meth.sig.returnType = ret ∧ c.maxLocals = 7 ∧ s.vm.findClass R_law = some m.cls ∧ (∀ w ∈ lw_tbl, w.before #[Value.ref b] s = true) ∧ va_X b L xs s s.heap ∧ b < s.heap.size ∧ meth.locks = false ∧ (Jvm.Cond.and given_1 narrow_1).before #[Value.ref b] s = true
theorem lw_mt : (am_mt 352).1 = k_352 ∧ (am_mt 352).2.1 = 7 ∧ (am_in 352).2.1 = 13 ∧ (am_in 352).2.2.1 = 2 ∧ am_b 352 = code := ⟨rfl, rfl, rfl, rfl, rfl⟩
theorem lw_dec : ∀ q ∈ k_352, decode code q.1 = .ok (q.2.1, q.2.2.1 - q.1) := by
  have h := am_ckD_all 352 (by omega)
  unfold am_ckD at h
  obtain ⟨e1, e2, e3, e4, e5⟩ := lw_mt
  rw [e1, e5] at h
  exact fun q hq => of_decide_eq_true (List.all_eq_true.mp h q hq)
theorem lw_okl : am_okL 13 7 2 k_352 = true := by
  have h := am_ckL_all 352 (by omega)
  unfold am_ckL at h
  obtain ⟨e1, e2, e3, e4, e5⟩ := lw_mt
  rw [e1, e2, e3, e4] at h
  exact h
theorem lw_calls : k_352.all (fun q => (am_ckc q || am_swc q) && (!am_swc q || Nat.blt q.2.2.2.2.1 352)) = true := by decide +kernel
theorem lw_kx : kx 0 = 0 ∧ kx 800 = 510 ∧ kx 900 = 529 := by decide +kernel
set_option maxHeartbeats 4000000 in
theorem lw_runs {p : Program} {e : Env} {s : State} {m : MethodId} {below : List Frame} {meth : Method} {c : Code} (l : Launch) (hlf : l.stackTraces = false) {b L : Nat} {xs : Nat → Int32} (hL : L ≤ 3072) {D : va_G} {cs : am_CS} {sA aV : Nat → Nat} {K S : Nat} {H : Heap} {locs : List Loc} {ls : Array Slot}
    (hx : p.tables.exec = Jvm.exec) (hb : c.code = code) (hr : meth.sig.returnType = ret) (hml : c.maxLocals = 7) (hown : s.vm.findClass (am_cn 13) = some m.cls) (hts : ∀ w ∈ am_TG, w.before #[Value.ref b] s = true) (hK : va_K D am_cl (am_tys cs) s) (hC : am_Cx D cs sA aV b (L, xs) (fun q => s.heap.size ≤ q) s) (hNC : am_NC s) (hlocks : meth.locks = false) (hK1 : K ≤ 600000) (hS1 : S ≤ 7000000)
    (hWr : am_Wd D cs (kn_A0 s.heap.size) s (am_ren (rh s.heap.size) (ri s.heap.size) (gE id0, sg00)) H locs) (hl : lv_has ls 7 [(3, .ref (s.heap.size + 529)), (2, .ref (s.heap.size + 510)), (1, .ref s.heap.size), (0, .ref b)]) : W p l e room_1 s m #[Value.ref b] below meth c H locs K S (lw_Z below #[Value.ref b] s) (F0 m 20 ls []) := by
  obtain ⟨r, ⟨n, hrun⟩, p1, s1, kc, ks, hkc, hks, rfl⟩ := law_all (X := (L, xs)) (k0 := K) (s0 := S) hL RI.zero RC.zero RM.zero
  have hrun' := am_run_ren (ρ := rh s.heap.size) (iv := ri s.heap.size) (ri_rh s.heap.size) (C' := am_Call (L, xs) am_SL am_mt 41) (fun y av M r h => am_call_ren (ρ := rh s.heap.size) (iv := ri s.heap.size) (ri_rh s.heap.size) 41 y av M r h) n _ _ _ _ _ _ hrun
  have hF : am_Fx p s m #[Value.ref b] c code 7 13 2 k_352 D cs sA aV b (L, xs) (fun q => s.heap.size ≤ q) := ⟨hx, hb, hml, hown, hts, hC, fun q h => h, lw_dec, lw_okl⟩
  obtain ⟨x0, x8, x9⟩ := lw_kx
  have hlo : am_lo sA b ls 7 (am_rl (rh s.heap.size) [some vX, some (vR 0), some (vR 800), some (vR 900), none, none, none]) := by
    refine ⟨hl.1, hl.2.1, fun i v hi => ?_⟩
    have hi : ([some vX, some (vR (rh s.heap.size 0)), some (vR (rh s.heap.size 800)), some (vR (rh s.heap.size 900)), none, none, none] : List (Option AV))[i]? = some (some v) := hi
    unfold rh at hi
    rw [x0, x8, x9, Nat.add_zero] at hi
    match i, hi with
    | 0, hi =>
      simp only [List.getElem?_cons_zero, Option.some.injEq] at hi
      subst hi
      exact ⟨rfl, lv_at hl 3 rfl⟩
    | 1, hi =>
      simp only [List.getElem?_cons_succ, List.getElem?_cons_zero, Option.some.injEq] at hi
      subst hi
      exact ⟨rfl, lv_at hl 2 rfl⟩
    | 2, hi =>
      simp only [List.getElem?_cons_succ, List.getElem?_cons_zero, Option.some.injEq] at hi
      subst hi
      exact ⟨rfl, lv_at hl 1 rfl⟩
    | 3, hi =>
      simp only [List.getElem?_cons_succ, List.getElem?_cons_zero, Option.some.injEq] at hi
      subst hi
      exact ⟨rfl, lv_at hl 0 rfl⟩
    | 4, hi => simp at hi
    | 5, hi => simp at hi
    | 6, hi => simp at hi
    | i + 7, hi => simp at hi
  have hcal : ∀ q ∈ k_352, (am_ckc q = true ∨ am_swc q = true) ∧ (am_swc q = true → q.2.2.2.2.1 < 352) := by
    intro q hq
    have h := List.all_eq_true.mp lw_calls q hq
    simp only [Bool.and_eq_true, Bool.or_eq_true, Bool.not_eq_true'] at h
    refine ⟨h.1, fun h2 => ?_⟩
    rcases h.2 with h3 | h3
    · rw [h2] at h3
      cases h3
    · have := Nat.le_of_ble_eq_true h3
      omega
  have hX : ∀ (Next : am_K) (k : List am_CE) (lv : List (Option AV)) (pc kc' ks' : Nat), am_KX p l e room_1 s m #[Value.ref b] below meth c (lw_Z below #[Value.ref b] s) 7 k_352 D cs sA b (fun q => s.heap.size ≤ q) [] Next (fun r' => r' = am_renR (rh s.heap.size) (ri s.heap.size) ((gE p1, s1), .inl (some (vI 1)), kc, ks)) k lv pc kc' ks' := by
    intro Next k lv pc kc' ks' rest r' n' H1 locs1 q ce ls1 hv hret1 hw h1 h2 h3 hlo1
    unfold am_ret at hret1
    rw [hv] at hret1
    have hret1 : ((r'.1, .inr n', kc' + r'.2.2.1, ks' + r'.2.2.2) : am_R) = am_renR (rh s.heap.size) (ri s.heap.size) ((gE p1, s1), .inl (some (vI 1)), kc, ks) := hret1
    have h9 := congrArg (fun z : am_R => z.2.1) hret1
    cases h9
  refine am_body (R := room_1) (d := 41) (hs := []) (C := am_Call (L, xs) am_SL am_mt 41) (r := am_renR (rh s.heap.size) (ri s.heap.size) ((gE p1, s1), .inl (some (vI 1)), kc, ks)) hF ⟨by show 41 + 11 ≤ 2048; omega, by show 100 * (41 + 11) ≤ 84000; omega⟩ (am_sound l hlf D cs sA aV b (L, xs) 41) ⟨by show kc ≤ 601024; omega, by show ks ≤ 7293034; omega⟩ (fun q hq => (hcal q hq).1) ?_ ?_ ?_ ?_ (fun Next _ k lv pc kc' ks' _ => hX Next k lv pc kc' ks') n _ _ _ _ _ _ hrun' 20 H locs ls (fun _ => rfl) ⟨[], rfl⟩ hWr hlo
  · intro Next hN hNc hEc q k lv st M kc' ks' hsw hsuf hst
    have hlt := (hcal q (am_suf_mem hsuf)).2 hsw
    obtain ⟨pc, i, nx, r1, r2, x⟩ := q
    dsimp only at hlt
    cases i
    case invokestatic jx =>
      simp only [am_swc, Bool.and_eq_true, decide_eq_true_eq] at hsw
      obtain ⟨j, rfl⟩ : ∃ j, r2 = 319 + j := ⟨r2 - 319, by omega⟩
      obtain ⟨r1', rfl⟩ : ∃ k, r1 = k + 1 := ⟨r1 - 1, by omega⟩
      exact am_stepSW (d := 40) hlf hF hNC ⟨by show 40 + 12 ≤ 2048; omega, by show 100 * (40 + 12) ≤ 84000; omega⟩ hN hNc hEc (by omega) hsuf hst (hX Next k lv pc kc' ks')
    all_goals (simp [am_swc] at hsw)
  · intro pc v H1 locs1 ls1 M1 kc' ks' hd h1 hfit hr1 hw
    have e1 : (.inl (some (vI v)) : Option AV ⊕ Nat) = .inl (some (vI 1)) := congrArg (fun z : am_R => z.2.1) hr1
    have e2 : kc' = kc := congrArg (fun z : am_R => z.2.2.1) hr1
    have e3 : ks' = ks := congrArg (fun z : am_R => z.2.2.2) hr1
    have e4 : v = 1 := by
      cases e1
      rfl
    subst e2 e3 e4
    refine va_forget (fun q hq => hw.2.2.1.2.2 q hq) (W.widen (k := 601024) (n := 7293034) (by omega) (by omega) (lw_ret hx hb hr hlocks hd))
  · intro pc H1 locs1 ls1 M1 kc' ks' hd h1 hr1 hw
    exact absurd h1 (by decide)
  · intro pc jj nx r1 r2 x k st M1 kc' ks' H1 locs1 ls1 hsuf _ hsum hr1 hw hsz
    have h9 := congrArg (fun z : am_R => z.2.1) hr1
    cases h9
-- ===== YOUR PART BEGINS =====
/-- YOUR PART: from the entry, for every script of at most 3072 ints, the law comes to its end with true ('hflags': the launch's flags, for a law that throws: no stack traces) -/
theorem whole_start {p : Program} {e : Env} {s : State} {m : MethodId} {below : List Frame} {meth : Method} {c : Code} (l : Launch) (hflags : l.flags = flags0) {b L : Nat} {xs : Nat → Int32} (hL : L ≤ 3072) (C0 : lw_At p s m meth c b L xs) : W p l e room_1 s m #[Value.ref b] below meth c s.heap [] 0 0 (lw_Z below #[Value.ref b] s) (entryFrame m ([Value.ref b] : List Value).toArray 7) := by
  obtain ⟨hx, hb, hr, hml, hown, hts0, hX, hbl, hlocks, hgv⟩ := id C0
  have hlf : l.stackTraces = false := by
    unfold Launch.stackTraces
    rw [hflags]
    decide +kernel
  have hts : ∀ w ∈ am_TG, w.before #[Value.ref b] s = true := fun w h => hts0 w (List.mem_filter.mp h).1
  have hown : s.vm.findClass (am_cn 13) = some m.cls := hown
  obtain ⟨D, cs, hK, hAO, hAI⟩ := gv_K hts0
  obtain ⟨sA, aV, hC⟩ := gv_Cx hgv hts0 hX hbl hK
  have hNC := gv_NC hgv
  have hNW : kn_NW s := ⟨hC.2.2.2.2.2.2.2.2.2.2, hAO, hAI⟩
  obtain ⟨n11, n12, n13⟩ := kn_n1
  obtain ⟨n21, n22, n23⟩ := kn_n2
  refine lw_made (S1 := kn_s1.1) (S2 := kn_s2.1) (c1 := kn_s1.2.1) (k1 := kn_s1.2.2) (c2 := kn_s2.2.1) (k2 := kn_s2.2.2) hx hb hml hown hts hK hNW (kn_c1 l D cs) (by rw [n11]; exact kn_c2 l D cs) (by omega) (by omega) (fun H locs ls hW hl => ?_)
  have hWr : am_Wd D cs (kn_A0 s.heap.size) s (am_ren (rh s.heap.size) (ri s.heap.size) (gE id0, sg00)) H locs := kn_Wd_ren (by unfold kn_s3; exact hW)
  exact lw_runs l hlf hL hx hb hr hml hown hts hK hC hNC hlocks (by omega) (by omega) hWr (by rw [← n11, ← n21] ; exact hl)
-- ===== YOUR PART ENDS =====
set_option maxHeartbeats 4000000 in
theorem lw_walk (l : Launch) (hflags : l.flags = flags0) (b : Addr) (xs : List Int32) : MetFree l x (headSpec (Jvm.Cond.code x code maxLocals ret :: tables_1) room_1) (lw_P b xs) (fun _ _ _ _ _ => True) lw_Q := by
  refine MetFree.of_bodyS (code := code) (maxLocals := maxLocals) (ret := ret) (by decide) ?_ ?_
  · intro args s m h hn
    obtain ⟨meth, c, h1, h2, h3, h4, h5, h6, -, -⟩ := Cond.code_spec hn (atoms_spec (ws := Jvm.Cond.code x code maxLocals ret :: tables_1) h _ List.mem_cons_self)
    exact ⟨meth, c, h1, h2, h3, h4, h5, h6⟩
  · intro p e s m args below meth c s₁ B hml0 hP _
    obtain ⟨rfl, hx, hbd, hgv⟩ := hP
    obtain ⟨scr, harrAt, hlist, hof, hsmall⟩ := hx
    obtain ⟨hcb, hkn, -, -⟩ := State.arrayAt?_spec harrAt
    have hown : s.vm.findClass R_law = some m.cls := findClass_of_methodNamed B.named
    have hts0 : ∀ c ∈ (Jvm.Cond.code x code maxLocals ret :: tables_1), c.before #[Value.ref b] s = true := atoms_spec (ws := Jvm.Cond.code x code maxLocals ret :: tables_1) B.pre
    have hts : ∀ w ∈ lw_tbl, w.before #[Value.ref b] s = true := k2_hts_sels lw_privs (fun w hw => hts0 w (List.mem_cons_of_mem _ hw)) lw_privs_ok
    have hml : c.maxLocals = 7 := B.maxLocals_eq (hts0 _ List.mem_cons_self)
    have X₀ : Stand p l e room_1 s m #[Value.ref b] below meth c s₁ [] 0 0 := Stand.of_body B
    have hh0 : s₁.heap = s.heap := by rw [B.state]; rfl
    have hsz : scr.slots.size = xs.length := by rw [← Array.length_toList, hlist, List.length_map]
    have hval : ∀ j : Nat, j < xs.length → scr.slots[j]? = some (.int (xs.getD j 0)) := fun j hj => by
      rw [← Array.getElem?_toList, hlist]
      simp [hj]
    have hbl : b < s.heap.size := (Array.getElem?_eq_some_iff.mp hcb).1
    have hX : va_X b xs.length (fun j => xs.getD j 0) s s.heap := ⟨scr, hcb, hof, hkn, hsz, hval⟩
    have K : W p l e room_1 s m #[Value.ref b] below meth c s₁.heap [] 0 0 (lw_Z below #[Value.ref b] s) (entryFrame m ([Value.ref b] : List Value).toArray 7) := by
      rw [hh0]
      exact whole_start l hflags hbd ⟨B.exec, B.bytes, B.returns, hml, hown, hts, hX, hbl, B.notSynchronized, hgv⟩
    obtain ⟨t, a1, o, b1, b2, b3⟩ := K s₁ rfl X₀
    exact ⟨t, o, a1, b1, b2, b3⟩
theorem lw_pre_spec {args : Array Value} {s : State} (h : (Jvm.Cond.and given_1 narrow_1).before args s = true) (hr : rest_1_c.before args s = true) : ∃ (b : Addr) (xs : List Int32), lw_P b xs args s := by
  have hs := flat_of_before _ h
  have hq := flat_of_before _ hr
  have hc : (Cond.count 1).before args s = true := hs _ (by decide +kernel)
  have harr : (Cond.arrayOf (.arg 0) .int).before args s = true := hs _ (by decide +kernel)
  have hle : (Cond.le (.length (.arg 0)) (.int 3072)).before args s = true := hs _ (by decide +kernel)
  have hlen : (Cond.isInt (.length (.arg 0))).before args s = true := hq _ (by decide +kernel)
  have hall : (Cond.all (.arg 0) (.isInt (.elem (.arg 0) (.index 0)))).before args s = true := hq _ (by decide +kernel)
  obtain ⟨b, xs, hb, hx⟩ := State.ints_of_pre rfl harr hlen hall
  have hsm : xs.length < 2 ^ 31 := hx.choose_spec.2.2.2
  have hev : (Term.length (.arg 0)).eval args s none [] s = some (.int xs.length.toInt32) := hx.length_eval hb
  have hv := Cond.le_ints hev (show (Term.int 3072).eval args s none [] s = some (.int 3072) from rfl)
  have hd : xs.length.toInt32 ≤ 3072 := by
    simpa [Cond.before, Cond.holds, hv] using hle
  have hN : xs.length ≤ 3072 := (Int32.ofNat_le_ofNat hsm (by decide)).mp (show Int32.ofNat xs.length ≤ Int32.ofNat 3072 from hd)
  exact ⟨b, xs, Cond.one_arg hc (show args[0]? = some (.ref b) from hb), hx, hN, h⟩
theorem lw_comes (l : Launch) (hflags : l.flags = flags0) : Comes l x (Jvm.Cond.code x code maxLocals ret :: tables_1) room_1 (fun tb e args s => Calls_1 tb e args s ∧ rest_1 tb e args s ∧ Pre_1 tb e args s)
    (fun _ _ args s o t => lw_Q args s o t) := by
  intro p e ha hc hk s m args below hf hfit hheap happ hpre
  obtain ⟨b, xs, hP⟩ := lw_pre_spec hpre.2.2 hpre.2.1
  obtain ⟨k, o, h1, h2, h3, hQ⟩ := lw_walk l hflags b xs p e ha hc hk s m args below hf ((Spec.applies_iff_loose hf).mp happ).1 hP trivial
  exact ⟨k, o, h1, h2, h3, hQ⟩
theorem lw_frame {s t : State} {o : Outcome} {args : Array Value} (h : Framed s o t [] 601024 7293034) :
    Framed s o t (fieldLocs frame_1_writes args s ++ arrayLocs frame_1_arrays args s ++ staticLocs frame_1_statics s) 601024 7293034 := h
theorem lw_limb (L : Cond) (hL : ∀ (args : Array Value) (s t : State), L.after args s (.returned (some (.int 1))) t = true) :
    ArmFor flags0 classFile x code maxLocals ret World_1 tables_1 room_1 Calls_1 rest_1 Pre_1
      (fun tb e a s o t => postC L tb e a s o t ∧ Framed s o t (fieldLocs frame_1_writes a s ++ arrayLocs frame_1_arrays a s ++ staticLocs frame_1_statics s) 601024 7293034) := by
  intro l hflags _ _ p e ha hc hk s m args below hf hfit hheap happ hpre
  obtain ⟨k, o, h1, h2, h3, rfl, hF⟩ := lw_comes l hflags p e ha hc hk s m args below hf hfit hheap happ hpre
  exact ⟨k, _, h1, h2, h3, hL args s _, lw_frame hF⟩
theorem i_vc : Claimed_1_1 ∧ Claimed_1_2 := ⟨lw_limb limb_1_1 (fun args s t => by simp [limb_1_1, Cond.after, Cond.holds, Cond.value]), lw_limb limb_1_2 (fun args s t => Cond.after_iff.mpr (by
  first | (rw [show limb_1_2 = Cond.eq .result (.int 1) from rfl, Cond.eq_ints (x := 1) (y := 1) rfl rfl]; simp; done) | (simp [limb_1_2, Cond.value, Term.eval]; done)))⟩
