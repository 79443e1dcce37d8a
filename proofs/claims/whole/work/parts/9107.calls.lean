/-! CALLS: a method's contract out of the machine's run of it, and its use -/
def am_AA (L : List Nat) (sz : Nat) : Nat → Prop := fun q => q ∈ L ∨ sz ≤ q
def am_rm (d mc ms : Nat) : Room := { frames := d + 10, cells := mc, slots := ms, locals := 100 * (d + 10) }
def am_Pre (D : va_G) (cs : am_CS) (sA aV : Nat → Nat) (B : Nat) (X : Nat × (Nat → Int32)) (M : am_M) (sz : Nat) (av : List AV) : Array Value → State → Prop := va_Pc (av.map (am_v sA B)) (fun U => U.heap.size = sz ∧ va_P D am_cl (am_W cs M) U.heap ∧ va_D (fun _ => True) (am_W cs M) ∧ (∀ n, M.1.1 = some n → U.heap.size = n) ∧ am_Cx D cs sA aV B X (am_AA M.1.2.1 sz) U)
def am_Nw (D : va_G) (cs : am_CS) (A : Nat → Prop) (M : am_M) (H : Heap) : Prop := va_P D am_cl (am_W cs M) H ∧ va_D A (am_W cs M) ∧ ∀ n, M.1.1 = some n → H.size = n
def am_Qc (D : va_G) (cs : am_CS) (sA : Nat → Nat) (B : Nat) (A : Nat → Prop) (r : am_R) : Array Value → State → Outcome → State → Prop := fun _ st oc t => (∃ v : Option AV, r.2.1 = .inl v ∧ oc = .returned (v.map (am_v sA B)) ∧ am_Nw D cs A r.1 t.heap) ∧ va_F A st t
def am_Xc (D : va_G) (cs : am_CS) (A : Nat → Prop) (r : am_R) : String → State → State → Prop := fun E st t => (∃ n : Nat, r.2.1 = .inr n ∧ E = am_en n ∧ am_Nw D cs A r.1 t.heap) ∧ va_F A st t
def am_ws (y : Nat) : List Cond := Cond.code (am_y y) (am_b y) (am_mt y).2.1 (am_rt y) :: am_TG
def am_Con (l : Launch) (D : va_G) (cs : am_CS) (sA aV : Nat → Nat) (B : Nat) (X : Nat × (Nat → Int32)) (d y : Nat) (args : List AV) (M : am_M) (r : am_R) : Prop :=
  ∀ sz, vx_Met l (am_y y) (am_ws y) (am_rm d r.2.2.1 r.2.2.2) (am_Pre D cs sA aV B X M sz args) (am_Qc D cs sA B (am_AA M.1.2.1 sz) r) (am_Xc D cs (am_AA M.1.2.1 sz) r) r.2.2.1 r.2.2.2 (am_AA M.1.2.1 sz)
theorem am_blindP (D : va_G) (cs : am_CS) (sA aV : Nat → Nat) (B : Nat) (X : Nat × (Nat → Int32)) (M : am_M) (sz : Nat) (av : List AV) : FrameBlind (am_Pre D cs sA aV B X M sz av) := by
  intro a U g mk q
  obtain ⟨q0, q1, q2, q3, q4, q5⟩ := q
  exact ⟨q0, q1, q2, q3, q4, am_Cx_same q5 rfl rfl⟩
theorem am_D_mem {A : Nat → Prop} {cs : am_CS} {M : am_M} (hD : va_D A (am_W cs M)) {q : Nat} (h : q ∈ M.1.2.1) : A q := by
  obtain ⟨k, hk⟩ := va_pl_get (X := []) (f := fun a => am_cell cs (M.1.2.2 a) (M.2 a)) h
  exact hD.2 k (q, _) hk
section AMC
variable {p : Program} {l : Launch} {e : Env} {R : Room} {s : State} {m : MethodId} {args : Array Value} {below : List Frame} {meth : Method} {c : Code} {Q : State → Prop} {cc : ByteArray} {nL o rt : Nat} {full : List am_CE} {D : va_G} {cs : am_CS} {sA aV : Nat → Nat} {B : Nat} {X : Nat × (Nat → Int32)} {A : Nat → Prop}
variable {M : am_M} {H : Heap} {locs : List Loc} {cells slots pc : Nat} {ls : Array Slot} {st0 rest : List Value} {r : am_R} {a : Array Value}
/-- what a callee may write is the caller's to write -/
theorem am_sub (hA : ∀ q, s.heap.size ≤ q → A q) (hW : am_Wd D cs A s M H locs) : ∀ q, am_AA M.1.2.1 H.size q → A q := by
  intro q h
  rcases h with h | h
  · exact am_D_mem hW.2.1 h
  · exact hA q (Nat.le_trans hW.2.2.1.1 h)
/-- a callee's start -/
theorem am_pre {U : State} (hC : am_Cx D cs sA aV B X A s) (hA : ∀ q, s.heap.size ≤ q → A q) (hW : am_Wd D cs A s M H locs) (hU : U.heap = H) (hv : s.WarmedH U.vm) (av : List AV) : am_Pre D cs sA aV B X M H.size av (av.map (am_v sA B)).toArray U := by
  refine ⟨rfl, by rw [hU], by rw [hU]; exact hW.1, hW.2.1.weaken (fun _ _ _ _ => trivial), fun n hn => by rw [hU]; exact hW.2.2.2 n hn, am_Cx_next (locs := locs) hC (by rw [hU]; exact hW.2.2.1) hv (am_sub hA hW)⟩
/-- behind a call -/
theorem am_behind (hA : ∀ q, s.heap.size ≤ q → A q) (hW : am_Wd D cs A s M H locs) (hr : vx_Run p l e R s m args below meth c H locs cells slots r.2.2.1 r.2.2.2 (F0 m pc ls st0) rest (am_Qc D cs sA B (am_AA M.1.2.1 H.size) r a) (am_Xc D cs (am_AA M.1.2.1 H.size) r) (am_AA M.1.2.1 H.size))
    (kr : ∀ (v : Option AV) (H1 : Heap) (locs1 : List Loc), r.2.1 = .inl v → am_Wd D cs A s r.1 H1 locs1 → W p l e R s m args below meth c H1 locs1 (cells + r.2.2.1) (slots + r.2.2.2) Q (F0 m (pc + 3) ls ((v.map (am_v sA B)).toList ++ rest)))
    (kx : ∀ (n : Nat) (H1 : Heap) (locs1 : List Loc) (q : Addr) (ce : Cell), r.2.1 = .inr n → am_Wd D cs A s r.1 H1 locs1 → H1[q]? = some ce → ce.vm = .none → s.vm.findClass (am_en n) = some ce.cls → vx_W p l e R s m args below meth c H1 locs1 (cells + r.2.2.1) (slots + r.2.2.2) Q (F0 m pc ls rest) q) :
    W p l e R s m args below meth c H locs cells slots Q (F0 m pc ls st0) := by
  have hsub := am_sub hA hW
  intro T hT Xs
  rcases hr T hT Xs with ⟨v, st₀, t, T', L, h0, X', hL, e1, e2, ⟨⟨v', hv, hoc, hP, hD, hn⟩, hF⟩, st⟩ | ⟨q, st₀, t, T', L, E, ce, h0, X', hL, e1, e2, ⟨⟨n, hv, hE, hP, hD, hn⟩, hF⟩, hce, hcv, hcl, st⟩
  · obtain ⟨k1, k2, k3⟩ := vx_keep h0 e1 hW.2.2.1 (fun q _ => hsub q) hsub hL hF
    cases hoc
    obtain ⟨t2, a1, b1⟩ := kr v' T'.heap (locs ++ L) hv ⟨by rw [e1]; exact hP, hD.weaken (fun _ q _ h => hsub q.1 h), k3, fun n h => by rw [e1]; exact hn n h⟩ T' rfl X'
    exact ⟨t2, st t2 a1, b1⟩
  · obtain ⟨k1, k2, k3⟩ := vx_keep h0 e1 hW.2.2.1 (fun q _ => hsub q) hsub hL hF
    subst hE
    obtain ⟨t2, a1, b1⟩ := kx n T'.heap (locs ++ L) q ce hv ⟨by rw [e1]; exact hP, hD.weaken (fun _ q _ h => hsub q.1 h), k3, fun n h => by rw [e1]; exact hn n h⟩ (by rw [e1]; exact hce) hcv hcl T' rfl X'
    exact ⟨t2, st.trans a1, b1⟩
/-- the words of a call -/
theorem am_cb {y j : Nat} {d mc ms n : Nat} (hts : ∀ w ∈ am_TG, w.before args s = true) (hy : y < 319) (hl : Cond.methodLink (am_cn o) j (am_y y) ∈ am_TG) (hn : (parseMethodDescriptor (am_y y).desc).map (fun d => d.parameters.length) = some n) (hR : (am_rm d mc ms).frames + 1 ≤ R.frames ∧ 100 * (d + 11) ≤ R.locals) :
    CallB R s args (am_cn o) j (am_y y) (am_b y) (am_mt y).2.1 (am_rt y) (am_ws y) (am_rm d mc ms) mc ms n := by
  obtain ⟨h1, h2, h3, h4, h5, h6, h7, h8, h9⟩ := am_w_desc y hy
  refine am_callB n hts (am_tk (am_w_code y hy) rfl) (am_tk (am_w_ini y hy) rfl) hl rfl rfl ⟨h1, h2, hn⟩ ⟨hR.1, ?_⟩
  have e9 : (am_rm d mc ms).locals = 100 * (d + 10) := rfl
  rw [e9]
  omega
/-- a call by its receiver -/
theorem am_runV {y j d b : Nat} {as st : List AV} (hx : p.tables.exec = Jvm.exec) (hb : c.code = cc) (hml : c.maxLocals = nL) (hown : s.vm.findClass (am_cn o) = some m.cls) (hts : ∀ w ∈ am_TG, w.before args s = true) (hC : am_Cx D cs sA aV B X A s) (hA : ∀ q, s.heap.size ≤ q → A q) (hW : am_Wd D cs A s M H locs)
    (hy : y < 319) (hk : (am_mt y).2.2.1 ≠ 0) (hl : Cond.methodLink (am_cn o) j (am_y y) ∈ am_TG) (hlen : as.length + 1 = (am_in y).1) (hrecv : am_A M.1 b 0 (am_in y).2.1) (hci : (am_in y).2.1 < 13) (hcon : am_Con l D cs sA aV B X d y (vR b :: as) M r)
    (hR : d + 11 ≤ R.frames ∧ 100 * (d + 11) ≤ R.locals) (hf : cells + r.2.2.1 ≤ R.cells ∧ slots + r.2.2.2 ≤ R.slots) (hsz : ls.size = nL) (hsum : (st.map am_cat).sum ≤ 8) (hdg : decode cc pc = .ok (.invokevirtual j, 3)) :
    ∃ a, vx_Run p l e R s m args below meth c H locs cells slots r.2.2.1 r.2.2.2 (F0 m pc ls ((as.map (am_v sA B)).reverse ++ .ref b :: st.map (am_v sA B))) (st.map (am_v sA B)) (am_Qc D cs sA B (am_AA M.1.2.1 H.size) r a) (am_Xc D cs (am_AA M.1.2.1 H.size) r) (am_AA M.1.2.1 H.size) := by
  obtain ⟨h1, h2, h3, h4, h5, h6, h7, h8, h9⟩ := am_w_desc y hy
  rw [if_neg hk] at h7
  have hkind := am_w_kind y hy
  rw [if_neg hk] at hkind
  refine ⟨(Value.ref b :: as.map (am_v sA B)).toArray, vx_runV (As := as.map (am_v sA B)) (n := as.length) (C := (am_y y).cls) ⟨hx, hb, hml, hown, hts⟩ (hcon H.size) ⟨am_cb (n := as.length) hts hy hl (by rw [h7]; congr 1; omega) hR, hts _ (am_tk hkind rfl), hts _ (am_tk (am_w_sel y hy hk) rfl)⟩ ⟨am_blindP D cs sA aV B X M H.size _, ?_, fun U hU hW1 => am_pre hC hA hW hU hW1 (vR b :: as)⟩ rfl (by rw [List.length_map]) hsz rfl (by rw [am_sum]; show 2 * 0 + _ ≤ 8; omega) hdg hf⟩
  obtain ⟨q0, hq⟩ := am_at (cs := cs) hrecv
  obtain ⟨cell, g1, g2, g3⟩ := va_recv hC.1 hW.1 (am_cl_get _ hci) hq
  exact ⟨cell, g1, g2, by rw [h4]; exact g3⟩
/-- a static call -/
theorem am_runS {y j d : Nat} {as st : List AV} (hx : p.tables.exec = Jvm.exec) (hb : c.code = cc) (hml : c.maxLocals = nL) (hown : s.vm.findClass (am_cn o) = some m.cls) (hts : ∀ w ∈ am_TG, w.before args s = true) (hC : am_Cx D cs sA aV B X A s) (hA : ∀ q, s.heap.size ≤ q → A q) (hW : am_Wd D cs A s M H locs)
    (hy : y < 319) (hk : (am_mt y).2.2.1 = 0) (hl : Cond.methodLink (am_cn o) j (am_y y) ∈ am_TG ∨ va_Nw (.methodLinkNest (am_cn o) j (am_y y) "DayTables") s) (hlen : as.length = (am_in y).1) (hcon : am_Con l D cs sA aV B X d y as M r)
    (hR : d + 11 ≤ R.frames ∧ 100 * (d + 11) ≤ R.locals) (hf : cells + r.2.2.1 ≤ R.cells ∧ slots + r.2.2.2 ≤ R.slots) (hsz : ls.size = nL) (hsum : (st.map am_cat).sum ≤ 8) (hdg : decode cc pc = .ok (.invokestatic j, 3)) :
    ∃ a, vx_Run p l e R s m args below meth c H locs cells slots r.2.2.1 r.2.2.2 (F0 m pc ls ((as.map (am_v sA B)).reverse ++ st.map (am_v sA B))) (st.map (am_v sA B)) (am_Qc D cs sA B (am_AA M.1.2.1 H.size) r a) (am_Xc D cs (am_AA M.1.2.1 H.size) r) (am_AA M.1.2.1 H.size) := by
  obtain ⟨h1, h2, h3, h4, h5, h6, h7, h8, h9⟩ := am_w_desc y hy
  rw [if_pos hk] at h7
  have hkind := am_w_kind y hy
  rw [if_pos hk] at hkind
  have hn : (parseMethodDescriptor (am_y y).desc).map (fun d => d.parameters.length) = some as.length := by rw [h7]; congr 1; omega
  refine ⟨(as.map (am_v sA B)).toArray, ?_⟩
  rcases hl with hl | hl
  · exact vx_runS (As := as.map (am_v sA B)) (n := as.length) ⟨hx, hb, hml, hown, hts⟩ (hcon H.size) ⟨am_cb (n := as.length) hts hy hl hn hR, hts _ (am_tk hkind rfl)⟩ ⟨am_blindP D cs sA aV B X M H.size _, fun U hU hW1 => am_pre hC hA hW hU hW1 as⟩ rfl (by rw [List.length_map]) hsz rfl (by rw [am_sum]; show 2 * 0 + _ ≤ 8; omega) hdg hf
  · refine vx_runSN (As := as.map (am_v sA B)) (n := as.length) ⟨hx, hb, hml, hown, hts⟩ (hcon H.size) ⟨va_cnB as.length hts (am_goodIn (am_mem_cons (am_tk (am_w_code y hy) rfl))) rfl rfl rfl hl (hts _ (am_tk (am_w_ini y hy) rfl)) ⟨h1, h2, hn⟩ ⟨hR.1, ?_⟩, hts _ (am_tk hkind rfl), trivial⟩ ⟨am_blindP D cs sA aV B X M H.size _, fun U hU hW1 => am_pre hC hA hW hU hW1 as⟩ rfl (by rw [List.length_map]) hsz rfl (by rw [am_sum]; show 2 * 0 + _ ≤ 8; omega) hdg hf
    have e9 : (am_rm d r.2.2.1 r.2.2.2).locals = 100 * (d + 10) := rfl
    rw [e9]
    omega
end AMC
