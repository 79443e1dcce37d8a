/-! SOUND: what the machine says of a method, the method does -/
section AMU
variable {p : Program} {l : Launch} {e : Env} {R : Room} {s : State} {m : MethodId} {args : Array Value} {below : List Frame} {meth : Method} {c : Code} {Q : State → Prop} {cc : ByteArray} {nL o rt d : Nat} {full : List am_CE} {D : va_G} {cs : am_CS} {sA aV : Nat → Nat} {B : Nat} {X : Nat × (Nat → Int32)} {A : Nat → Prop}
variable {C : Nat → List AV → am_M → am_R → Prop} {hs : List (Nat × Nat × Nat)} {r : am_R}
def am_ckc (q : am_CE) : Bool := match q.2.1 with
  | .invokevirtual _ => decide (q.2.2.2.2.1 < 319)
  | .invokestatic _ => decide (q.2.2.2.2.1 < 319)
  | _ => true
def am_KR (p : Program) (l : Launch) (e : Env) (R : Room) (s : State) (m : MethodId) (args : Array Value) (below : List Frame) (meth : Method) (c : Code) (Q : State → Prop) (cc : ByteArray) (rt : Nat) (D : va_G) (cs : am_CS) (A : Nat → Prop) (r : am_R) : Prop :=
  ∀ (pc : Nat) (v : Int32) (H : Heap) (locs : List Loc) (ls : Array Slot) (M : am_M) (kc ks : Nat), decode cc pc = .ok (.ireturn, 1) → rt ≠ 1 → am_fit rt v → (M, .inl (some (vI v)), kc, ks) = r → am_Wd D cs A s M H locs → W p l e R s m args below meth c H locs kc ks Q (F0 m pc ls [.int v])
def am_KV (p : Program) (l : Launch) (e : Env) (R : Room) (s : State) (m : MethodId) (args : Array Value) (below : List Frame) (meth : Method) (c : Code) (Q : State → Prop) (cc : ByteArray) (rt : Nat) (D : va_G) (cs : am_CS) (A : Nat → Prop) (r : am_R) : Prop :=
  ∀ (pc : Nat) (H : Heap) (locs : List Loc) (ls : Array Slot) (M : am_M) (kc ks : Nat), decode cc pc = .ok (.return_, 1) → rt = 1 → (M, .inl none, kc, ks) = r → am_Wd D cs A s M H locs → W p l e R s m args below meth c H locs kc ks Q (F0 m pc ls [])
def am_KT (p : Program) (l : Launch) (e : Env) (R : Room) (s : State) (m : MethodId) (args : Array Value) (below : List Frame) (meth : Method) (c : Code) (Q : State → Prop) (nL : Nat) (full : List am_CE) (hs : List (Nat × Nat × Nat)) (D : va_G) (cs : am_CS) (sA : Nat → Nat) (B : Nat) (A : Nat → Prop) (r : am_R) : Prop :=
  ∀ (pc j nx r1 r2 : Nat) (x : Int32) (k : List am_CE) (st : List AV) (M : am_M) (kc ks : Nat) (H : Heap) (locs : List Loc) (ls : Array Slot), am_suf full ((pc, .new j, nx, r1, r2, x) :: k) → hs = [] → (st.map am_cat).sum ≤ 8 → ((((none, M.1.2.1, M.1.2.2), M.2), .inr r2, kc + 1, ks + 6) : am_R) = r → am_Wd D cs A s M H locs → ls.size = nL →
    W p l e R s m args below meth c H locs kc ks Q (F0 m pc ls (st.map (am_v sA B)))
/-- a row that calls -/
def am_inv (i : Instr) : Bool := match i with
  | .invokevirtual _ => true
  | .invokestatic _ => true
  | _ => false
/-- a static call of a wrapper -/
def am_swc (q : am_CE) : Bool := match q.2.1 with
  | .invokestatic _ => decide (319 ≤ q.2.2.2.2.1) && decide (0 < q.2.2.2.1)
  | _ => false
theorem am_swc_no {q : am_CE} (h1 : am_ckc q = true) (h2 : am_swc q = true) : False := by
  obtain ⟨pc, i, nx, r1, r2, x⟩ := q
  cases i <;> simp [am_ckc, am_swc] at h1 h2
  omega
set_option maxHeartbeats 1000000 in
theorem am_body (hF : am_Fx p s m args c cc nL o rt full D cs sA aV B X A) (hR : d + 11 ≤ R.frames ∧ 100 * (d + 11) ≤ R.locals) (hCC : am_CC l D cs sA aV B X d C) (hRc : r.2.2.1 ≤ R.cells ∧ r.2.2.2 ≤ R.slots) (hcalls : ∀ q ∈ full, am_ckc q = true ∨ am_swc q = true)
    (ksw : ∀ Next : am_K, (∀ k' lv' st' M' kc' ks', Next k' lv' st' M' kc' ks' → am_G p l e R s m args below meth c Q nL full D cs sA B A k' lv' st' M' kc' ks') → (∀ k' lv' st' M' kc' ks', Next k' lv' st' M' kc' ks' → kc' ≤ R.cells ∧ ks' ≤ R.slots) → (∀ r' : am_R, r' = r → r'.2.2.1 ≤ R.cells ∧ r'.2.2.2 ≤ R.slots) → ∀ (q : am_CE) k lv st M kc ks, am_swc q = true → am_suf full (q :: k) → am_stp X am_SL C full hs k q lv st M kc ks Next (fun r' => r' = r) → am_G p l e R s m args below meth c Q nL full D cs sA B A (q :: k) lv st M kc ks)
    (kr : am_KR p l e R s m args below meth c Q cc rt D cs A r) (kv : am_KV p l e R s m args below meth c Q cc rt D cs A r) (kt : am_KT p l e R s m args below meth c Q nL full hs D cs sA B A r)
    (kx : ∀ Next : am_K, (∀ k' lv' st' M' kc' ks', Next k' lv' st' M' kc' ks' → am_G p l e R s m args below meth c Q nL full D cs sA B A k' lv' st' M' kc' ks') → ∀ k lv pc kc ks, (∃ q ∈ full, q.1 = pc ∧ am_inv q.2.1 = true) → am_KX p l e R s m args below meth c Q nL full D cs sA B A hs Next (fun r' => r' = r) k lv pc kc ks) :
    ∀ (n : Nat) (k : List am_CE) (lv : List (Option AV)) (st : List AV) (M : am_M) (kc ks : Nat), am_Run X am_SL C full hs n k lv st M kc ks r → am_G p l e R s m args below meth c Q nL full D cs sA B A k lv st M kc ks := by
  have hR1 : 10 ≤ R.frames ∧ 1000 ≤ R.locals := by omega
  intro n
  induction n with
  | zero => intro k lv st M kc ks h; exact h.elim
  | succ n ih =>
    intro k lv st M kc ks h
    cases k with
    | nil => exact h.elim
    | cons q k =>
      have hcnt := am_run_mono h
      have h : am_stp X am_SL C full hs k q lv st M kc ks (fun k' lv' st' M' kc' ks' => am_Run X am_SL C full hs n k' lv' st' M' kc' ks' r) (fun r' => r' = r) := h
      have hNc : ∀ k' lv' st' M' kc' ks', am_Run X am_SL C full hs n k' lv' st' M' kc' ks' r → kc' ≤ R.cells ∧ ks' ≤ R.slots := fun k' lv' st' M' kc' ks' h' => ⟨Nat.le_trans (am_run_mono h').1 hRc.1, Nat.le_trans (am_run_mono h').2 hRc.2⟩
      have hEc : ∀ r' : am_R, r' = r → r'.2.2.1 ≤ R.cells ∧ r'.2.2.2 ≤ R.slots := fun r' h' => by subst h'; exact hRc
      have hcnt2 : kc ≤ R.cells ∧ ks ≤ R.slots := ⟨Nat.le_trans hcnt.1 hRc.1, Nat.le_trans hcnt.2 hRc.2⟩
      intro pc0 H locs ls hpc hsuf hW hlo
      by_cases hsw : am_swc q = true
      · exact ksw _ ih hNc hEc q k lv st M kc ks hsw hsuf h pc0 H locs ls hpc hsuf hW hlo
      by_cases hsoft : am_hard q.2.1 = false
      · exact am_step hF ih hsoft hsuf h pc0 H locs ls hpc hsuf hW hlo
      · have hcl := (hcalls q (am_suf_mem hsuf)).resolve_right hsw
        obtain ⟨hx, hb, hml, hown, hts, hC, hA, hdec, hok⟩ := id hF
        have hd0 := hdec q (am_suf_mem hsuf)
        obtain ⟨hokB, hokN⟩ := am_okL_suf hsuf hok
        have hpc1 : q.1 = pc0 := hpc (by simp)
        obtain ⟨pc, i, nx, r1, r2, x⟩ := q
        dsimp only at hpc1 hd0
        subst hpc1
        cases i
        case invokevirtual =>
          have hlt : r2 < 319 := by simpa [am_ckc] using hcl
          cases r1 with
          | zero =>
            simp only [am_okB, Bool.and_eq_true, beq_iff_eq, decide_eq_true_eq] at hokB
            obtain ⟨hnx, hcp, h2⟩ := hokB
            obtain ⟨⟨b1, b2⟩, hm1, hm2⟩ := am_lookup_any hcp
            simp only [beq_iff_eq] at hm2
            have hlk := am_cpS_ok o (am_cpS_lt hm1) _ hm1
            simp only [am_stp] at h
            split at h
            · rename_i jx s1
              obtain ⟨h77, hsum, h⟩ := h
              refine am_rowLen hx hb hml hown hts hC hW.2.2.1 h77 (am_tk (hlk.1 hm2) rfl) hR1 hcnt2 hlo.1 (by rw [am_sum]; exact hsum) (am_dl hd0 hnx) ?_
              exact ih _ _ _ _ _ _ h _ _ _ _ (fun hk => (am_next hokN hk).trans hnx) (am_suf_tail hsuf) hW hlo
            · rename_i ix jx s1
              obtain ⟨h77, hsum, hin, h⟩ := h
              refine am_rowChr hx hb hml hown hts hC hW.2.2.1 h77 hin (am_tk (hlk.2.1 hm2) rfl) hR1 hcnt2 hlo.1 (by rw [am_sum]; exact hsum) (am_dl hd0 hnx) ?_
              exact ih _ _ _ _ _ _ h _ _ _ _ (fun hk => (am_next hokN hk).trans hnx) (am_suf_tail hsuf) hW hlo
            · exact h.elim
          | succ r1 => exact am_stepV hF hR hCC ih hNc hEc hlt hsuf h (kx _ ih _ _ _ _ _ ⟨_, am_suf_mem hsuf, rfl, rfl⟩) pc H locs ls (fun _ => rfl) hsuf hW hlo
        case invokestatic =>
          have hlt : r2 < 319 := by simpa [am_ckc] using hcl
          cases r1 with
          | zero => exact am_rowCopy hF ih hsuf hR1 h hW hlo
          | succ r1 => exact am_stepS hF hR hCC ih hNc hEc hlt hsuf h (kx _ ih _ _ _ _ _ ⟨_, am_suf_mem hsuf, rfl, rfl⟩) pc H locs ls (fun _ => rfl) hsuf hW hlo
        case new =>
          obtain ⟨h1, h2, h3⟩ := h
          exact kt pc _ nx r1 r2 x k st M kc ks H locs ls hsuf h1 h2 h3 hW hlo.1
        case ireturn =>
          simp only [am_okB, Bool.and_eq_true, beq_iff_eq, bne_iff_ne, ne_eq] at hokB
          obtain ⟨⟨h1, h2⟩, hnx⟩ := hokB
          obtain ⟨v, s1, e1, e2, hfit, h3⟩ := am_pI_elim h
          subst e1 e2 h1
          exact kr pc v H locs ls M kc ks (am_dl hd0 hnx) h2 hfit h3 hW
        case return_ =>
          simp only [am_okB, Bool.and_eq_true, beq_iff_eq] at hokB
          obtain ⟨h1, hnx⟩ := hokB
          obtain ⟨e1, h3⟩ := h
          subst e1
          exact kv pc H locs ls M kc ks (am_dl hd0 hnx) h1 h3 hW
        all_goals exact absurd rfl hsoft
end AMU
theorem am_args_mem {sA : Nat → Nat} {B : Nat} : ∀ (av : List AV) (b j : Nat) (v : AV), (∀ w ∈ av, am_cat w = 1) → av[j]? = some v → (b + j, am_v sA B v) ∈ lv_args b (av.map (am_v sA B))
  | [], _, _, _, _, h => by simp at h
  | w :: av, b, 0, v, hc, h => by
    simp only [List.getElem?_cons_zero, Option.some.injEq] at h
    subst h
    simp [lv_args]
  | w :: av, b, j + 1, v, hc, h => by
    simp only [List.getElem?_cons_succ] at h
    have h1 := am_args_mem (sA := sA) (B := B) av (b + 1) j v (fun u hu => hc u (List.mem_cons_of_mem _ hu)) h
    have h2 : ¬ (am_v sA B w).category = 2 := by
      rw [am_v_cat (hc w List.mem_cons_self)]
      omega
    simp only [List.map_cons, lv_args, h2, if_false]
    rw [show b + (j + 1) = b + 1 + j by omega]
    exact List.mem_cons_of_mem _ h1
theorem am_sl_len {sA : Nat → Nat} {B : Nat} : ∀ (av : List AV), (∀ w ∈ av, am_cat w = 1) → (lg_sl (av.map (am_v sA B))).length = av.length
  | [], _ => rfl
  | w :: av, hc => by
    have h1 := am_sl_len (sA := sA) (B := B) av (fun u hu => hc u (List.mem_cons_of_mem _ hu))
    have h2 : ¬ (am_v sA B w).category = 2 := by
      rw [am_v_cat (hc w List.mem_cons_self)]
      omega
    unfold lg_sl at h1 ⊢
    simp only [List.map_cons, List.flatMap_cons, h2, if_false, List.length_append, List.length_cons, List.length_nil, h1]
    omega
theorem am_lo_entry {sA : Nat → Nat} {B : Nat} {av : List AV} {nL : Nat} {ls : Array Slot} (hc : ∀ w ∈ av, am_cat w = 1) (h : lv_has ls nL (lv_args 0 (av.map (am_v sA B)))) : am_lo sA B ls nL (am_lv nL av) := by
  refine ⟨h.1, h.2.1, fun i v hi => ?_⟩
  unfold am_lv at hi
  have hlt : i < av.length := by
    rcases Nat.lt_or_ge i av.length with h1 | h1
    · exact h1
    · rw [List.getElem?_append_right (by simpa using h1)] at hi
      have := List.mem_of_getElem? hi
      rw [List.mem_replicate] at this
      cases this.2
  rw [List.getElem?_append_left (by simpa using hlt), List.getElem?_map] at hi
  cases hv : av[i]? with
  | none => rw [hv] at hi; cases hi
  | some w =>
    rw [hv] at hi
    cases hi
    refine ⟨hc v (List.mem_of_getElem? hv), ?_⟩
    have := h.2.2 _ (am_args_mem (sA := sA) (B := B) av 0 i v hc hv)
    rw [Nat.zero_add] at this
    exact this
theorem am_ofW {l : Launch} {y : MethodName} {ws ws' : List Cond} {rm : Room} {Pc : Array Value → State → Prop} {Qc : Array Value → State → Outcome → State → Prop} {XC : String → State → State → Prop} {mc ms : Nat} {free : Addr → Prop} {cc : ByteArray} {maxL : Nat} {ret : Option FieldType}
    (hy : plainFor y = true) (hw : ws = Cond.code y cc maxL ret :: ws')
    (body : ∀ p e s m args below meth c s₁, BodyLoose p l y (headSpec ws rm) cc maxL ret e s m args below meth c s₁ → c.maxLocals = maxL → (∀ x ∈ c.exceptionTable.toList, False) → Pc args s →
      W p l e (headSpec ws rm).room s m args below meth c s.heap [] 0 0 (vx_MQ below Qc XC args s mc ms free) (entryFrame m args maxL)) : vx_Met l y ws rm Pc Qc XC mc ms free := by
  refine MetFree.of_bodySF (code := cc) (maxLocals := maxL) (ret := ret) hy ?_ ?_
  · intro args s m h hn
    obtain ⟨meth, c, h1, h2, h3, h4, h5, h6, -, -⟩ := Cond.code_spec hn (atoms_spec (ws := ws) h _ (by rw [hw]; exact List.mem_cons_self))
    exact ⟨meth, c, h1, h2, h3, h4, h5, h6⟩
  · intro p e s m args below meth c s₁ Bd hml hP _
    have hh0 : s₁.heap = s.heap := by rw [Bd.state]; rfl
    have ht : ∀ x ∈ c.exceptionTable.toList, False := by
      obtain ⟨meth9, c9, h1, h2, -, -, -, -, h7, -⟩ := Cond.code_spec Bd.named (atoms_spec (ws := ws) Bd.pre _ (by rw [hw]; exact List.mem_cons_self))
      cases Option.some.inj (h1.symm.trans Bd.method)
      cases Option.some.inj (h2.symm.trans (Stand.of_body Bd).code)
      intro x hx
      rw [Array.isEmpty_iff.mp h7] at hx
      cases hx
    obtain ⟨t, a1, o, b1, b2, b3⟩ := body p e s m args below meth c s₁ Bd hml ht hP s₁ hh0 (Stand.of_body Bd)
    exact ⟨t, o, a1, b1, b2, b3⟩
