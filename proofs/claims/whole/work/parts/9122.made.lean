/-! CONSTRUCTORS: what the machine of making says, the constructors do -/
def kn_v (b : Nat) (v : AV) : Value := am_v (fun _ => 0) 0 (am_rv (fun q => b + q) v)
def kn_NW (U : State) : Prop := ∀ w ∈ lw_tbl, am_isB w = true → va_Nw w U
def kn_rm (dep kc ks : Nat) : Room := { frames := dep + 1, cells := kc, slots := ks, locals := 40 * (dep + 1) }
def kn_ws (o : Nat) : List Cond := Cond.code (kn_y o) (kn_b o) (kn_mt o).2.1 none :: am_TG
def kn_A0 (b : Nat) : Nat → Prop := fun q => b ≤ q
def kn_Pre (D : va_G) (cs : am_CS) (b : Nat) (S : kn_S) (av : List AV) : Array Value → State → Prop := va_Pc (av.map (kn_v b)) (fun U => U.heap.size = b + S.1 ∧ va_P D am_cl (am_W cs (kn_M b S)) U.heap ∧ va_D (kn_A0 b) (am_W cs (kn_M b S)) ∧ va_K D am_cl (am_tys cs) U ∧ kn_NW U)
def kn_Qc (D : va_G) (cs : am_CS) (b : Nat) (S : kn_S) : Array Value → State → Outcome → State → Prop := va_Qv (S := Unit) (fun _ => True) (fun _ t => t.heap.size = b + S.1 ∧ va_P D am_cl (am_W cs (kn_M b S)) t.heap ∧ va_D (kn_A0 b) (am_W cs (kn_M b S))) (kn_A0 b)
def kn_Con (l : Launch) (D : va_G) (cs : am_CS) (dep o : Nat) (av : List AV) (S S' : kn_S) (kc ks : Nat) : Prop := ∀ b, Met l (kn_y o) (kn_ws o) (kn_rm dep kc ks) (kn_Pre D cs b S av) (kn_Qc D cs b S') kc ks (kn_A0 b)
theorem kn_NW.next {s U : State} (hW : s.WarmedH U.vm) (h : kn_NW s) : kn_NW U := fun w hw hb => am_isB_warm hb hW (h w hw hb)
theorem kn_blind (D : va_G) (cs : am_CS) (b : Nat) (S : kn_S) (av : List AV) : FrameBlind (kn_Pre D cs b S av) := by
  intro a U g mk q
  obtain ⟨q0, q1, q2, q3, q4, q5⟩ := q
  exact ⟨q0, q1, q2, q3, va_K.moved (u := U) (U := U.calling g mk a) (Vm.Alike.refl U.vm) q4, q5⟩
section KNR
variable {p : Program} {l : Launch} {e : Env} {R : Room} {s : State} {m : MethodId} {args : Array Value} {below : List Frame} {meth : Method} {c : Code} {Q : State → Prop} {o b : Nat} {D : va_G} {cs : am_CS}
variable {k full : List am_CE} {lv : List (Option AV)} {st : List AV} {S : kn_S} {kc ks : Nat}
def kn_Fx (p : Program) (s : State) (m : MethodId) (args : Array Value) (meth : Method) (c : Code) (o b : Nat) (D : va_G) (cs : am_CS) : Prop :=
  p.tables.exec = Jvm.exec ∧ c.code = kn_b o ∧ c.maxLocals = (kn_mt o).2.1 ∧ s.vm.findClass (am_cn o) = some m.cls ∧ (∀ w ∈ am_TG, w.before args s = true) ∧ va_K D am_cl (am_tys cs) s ∧ kn_NW s ∧ meth.name = "<init>" ∧ b ≤ s.heap.size ∧ o < 13
def kn_G (p : Program) (l : Launch) (e : Env) (R : Room) (s : State) (m : MethodId) (args : Array Value) (below : List Frame) (meth : Method) (c : Code) (Q : State → Prop) (o b : Nat) (D : va_G) (cs : am_CS) (r : kn_R) : Prop :=
  ∀ (pc : Nat) (H : Heap) (locs : List Loc) (ls : Array Slot), (r.1 ≠ [] → am_pc r.1 = pc) → am_suf (kn_mt o).1 r.1 → am_Wd D cs (kn_A0 b) s (kn_M b r.2.2.2.1) H locs → am_lo (fun _ => 0) 0 ls (kn_mt o).2.1 (am_rl (fun q => b + q) r.2.1) → W p l e R s m args below meth c H locs r.2.2.2.2.1 r.2.2.2.2.2 Q (F0 m pc ls (r.2.2.1.map (kn_v b)))
/-- a final field, a reference -/
theorem kn_rowF {H : Heap} {locs : List Loc} {ls : Array Slot} {rest : List Value} {pc a j r2 q : Nat} (hF : kn_Fx p s m args meth c o b D cs) (hW : am_Wd D cs (kn_A0 b) s (kn_M b S) H locs) (ha : kn_is S a 0 o = true) (hk : r2 < am_n o)
    (hlink : (Cond.fieldLink (am_cn o) j (am_cn o) (am_T o r2).2.1 (am_T o r2).2.2.1).before args s = true) (hbt : (am_ft o)[r2]? = some true) (hfin : (am_T o r2).2.2.2 = true) (hdg : decode (kn_b o) pc = .ok (.putfield j, 3))
    (kk : ∀ (H1 : Heap) (locs1 : List Loc), am_Wd D cs (kn_A0 b) s (kn_M b (kn_ptr S a r2 q)) H1 locs1 → W p l e R s m args below meth c H1 locs1 kc ks Q (F0 m (pc + 3) ls rest)) : W p l e R s m args below meth c H locs kc ks Q (F0 m pc ls (.ref (b + q) :: .ref (b + a) :: rest)) := by
  obtain ⟨hexec, hb, hml, hown, hts, hK, hN, hin2, hbs, ho⟩ := hF
  have ha1 := kn_A (b := b) ha
  obtain ⟨q0, hq⟩ := am_at (cs := cs) ha1
  have hc := am_cl_get o ho
  have hin := am_in_lays ho
  have hap := va_apart (own := am_cn o) hts hin (am_ty o) (am_pd o ho) (am_nm o ho) hK hc
  obtain ⟨r, h1, cell, q1, q2, q3, q4⟩ := hW.1 q0 _ hq
  have hr : r = (am_cn o, am_T o, am_n o) := Option.some.inj (h1.symm.trans hc)
  subst hr
  obtain ⟨hS, hfc, kC, hkC, hkind⟩ := hK.1 o _ hc
  obtain ⟨cf, kf, fi, f, hi, hsl⟩ := hS r2 hk
  have hlay := hts _ (hin _ (u_in_lay hk))
  unfold u_lay at hlay
  rw [if_pos hfin] at hlay
  have hst := (u_facts hfc hkC (u_lays hts hin hk) hi).1
  have hcf : m.cls = cf := by
    obtain ⟨_, _, c', _, _, _, -, -, hf', -, -, -, hown2, -⟩ := Cond.laysFinal_spec hlay
    have e1 : c' = cf := by have := hi.symm.trans hf'; simp at this; exact this.1.symm
    have e0 : (am_T o r2).1 = am_cn o := rfl
    rw [e0] at hown2
    rw [← e1]
    exact Option.some.inj (hown.symm.trans hown2)
  have hnf := kn_reff o ho r2 hk hbt (b + q)
  have h6 := u_fits hfc hkC hkind (Or.inr hlay) hi (am_pd o ho r2 hk) hnf.1 hnf.2
  refine W.putFinK hexec hb hown hlink hi hst hcf hin2 (by rw [q2]; exact h6) q1 q3 (by rw [hsl]; exact k2_hasslot (q4 r2 hk)) rfl rfl hdg fun H' e1 e2 e3 => ?_
  rw [hsl] at e1 ⊢
  have hup := am_updP (p := va_up (((kn_M b S).1.2.2 (b + a)).2.2) r2 (some (b + q))) (j := _) hW ha1 hq ?_ e2 e3
  · have e9 : (((kn_M b S).1.1, (kn_M b S).1.2.1, va_up (kn_M b S).1.2.2 (b + a) (((kn_M b S).1.2.2 (b + a)).1, ((kn_M b S).1.2.2 (b + a)).2.1, va_up (((kn_M b S).1.2.2 (b + a)).2.2) r2 (some (b + q)))), (kn_M b S).2) = kn_M b (kn_ptr S a r2 q) := kn_setP
    rw [e9] at hup
    exact kk H' _ hup
  · refine ⟨_, hc, t_OB.to (V := updV (vp_V (am_fs (am_ft o) 0 ((kn_M b S).1.2.2 (b + a)).2.2 ((kn_M b S).2 (b + a)))) r2 (.ref (b + q))) ⟨_, e1, q2, q3, t_set q4 hap hk _⟩ (fun j _ => ?_)⟩
    have hl : r2 < (am_fs (am_ft o) 0 ((kn_M b S).1.2.2 (b + a)).2.2 ((kn_M b S).2 (b + a))).length := by rw [am_fs_len, am_ft_len o ho]; exact hk
    have e9 := am_fs_setP (am_ft o) 0 r2 ((kn_M b S).1.2.2 (b + a)).2.2 ((kn_M b S).2 (b + a)) (b + q) hbt
    rw [Nat.zero_add] at e9
    rw [vp_updV_set hl, e9]
theorem kn_rvv {v : Nat ⊕ (Nat ⊕ (Int32 ⊕ Unit))} : ∃ w, am_rv (fun q => b + q) (.inr v) = .inr w := ⟨_, rfl⟩
theorem kn_any {l : List (Nat × Nat)} {j : Nat} (h : (l.lookup j).any (fun _ => true) = true) : ∃ q, (j, q) ∈ l := by
  obtain ⟨q, h1, -⟩ := am_lookup_any h
  exact ⟨q, h1⟩
theorem kn_cls (hts : ∀ w ∈ am_TG, w.before args s = true) (ho : o < 13) {j ci : Nat} (h : ((kn_cl o).lookup j).any (fun q => q.1 == ci) = true) : (Cond.classLink (am_cn o) j (am_cn ci)).before args s = true := by
  obtain ⟨⟨b1, b2⟩, h1, h2⟩ := am_lookup_any h
  simp only [beq_iff_eq] at h2
  subst h2
  exact hts _ (am_tk (kn_tcl o ho _ h1) rfl)
set_option maxHeartbeats 8000000 in
theorem kn_step {pc nx r1 r2 : Nat} {i : Instr} {x : Int32} {r : kn_R} (hF : kn_Fx p s m args meth c o b D cs) (h : kn_row (kn_mt o).1 k (pc, i, nx, r1, r2, x) lv st S kc ks = some r) (hle : r.2.2.2.2.1 ≤ R.cells ∧ r.2.2.2.2.2 ≤ R.slots) (hN : kn_G p l e R s m args below meth c Q o b D cs r) :
    kn_G p l e R s m args below meth c Q o b D cs ((pc, i, nx, r1, r2, x) :: k, lv, st, S, kc, ks) := by
  intro pc0 H locs ls hpc hsuf hW hlo
  have hF0 := hF
  obtain ⟨hx, hb, hml, hown, hts, hK, hNW, hin2, hbs, ho⟩ := hF
  have hsuf : am_suf (kn_mt o).1 ((pc, i, nx, r1, r2, x) :: k) := hsuf
  have hd0 := kn_tdec o ho _ (am_suf_mem hsuf)
  obtain ⟨hokB, hokN⟩ := kn_okL_suf hsuf (kn_tok o ho)
  have hpc1 : pc = pc0 := hpc (by simp)
  subst hpc1
  have hA : ∀ q, s.heap.size ≤ q → kn_A0 b q := fun q h => Nat.le_trans hbs h
  have hs1 := am_suf_tail hsuf
  dsimp only at hokN hd0
  have hlo : am_lo (fun _ => 0) 0 ls (kn_mt o).2.1 (am_rl (fun q => b + q) lv) := hlo
  have hW : am_Wd D cs (kn_A0 b) s (kn_M b S) H locs := hW
  cases i
  case aload_n j =>
    have h2 : j.val = r1 ∧ nx = pc + 1 := by simpa [kn_okB] using hokB
    simp only [kn_row] at h
    split at h
    · rename_i a hv
      cases h
      have h3 := (hlo.2.2 _ _ (am_getD (am_rl_get (ρ := fun q => b + q) hv))).2
      exact lv_aload_n hx hb (am_dl hd0 h2.2) h2.1 h3 (hN _ _ _ _ (fun hk => (hokN hk).trans h2.2) hs1 hW hlo)
    · cases h
  case iload_n j =>
    have h2 : j.val = r1 ∧ nx = pc + 1 := by simpa [kn_okB] using hokB
    simp only [kn_row] at h
    split at h
    · rename_i a hv
      cases h
      have h3 := (hlo.2.2 _ _ (am_getD (am_rl_get (ρ := fun q => b + q) hv))).2
      exact lv_iload_n hx hb (am_dl hd0 h2.2) h2.1 h3 (hN _ _ _ _ (fun hk => (hokN hk).trans h2.2) hs1 hW hlo)
    · cases h
  case istore_n j =>
    have h2 : (j.val = r1 ∧ r1 < (kn_mt o).2.1) ∧ nx = pc + 1 := by simpa [kn_okB] using hokB
    simp only [kn_row] at h
    split at h
    · rename_i v s1
      cases h
      refine lv_istore_n hx hb (am_dl hd0 h2.2) h2.1.1 (am_lo_has hlo) h2.1.2 rfl (fun ls1 hl1 => hN _ _ _ _ (fun hk => (hokN hk).trans h2.2) hs1 hW ?_)
      show am_lo _ _ _ _ (am_rl _ (lv.set r1 (some (.inl v))))
      rw [am_rl_set]
      exact am_lo_set (v := vI v) hlo rfl hl1
    · cases h
  case iinc j n =>
    have h2 : ((j = r1 ∧ r1 < (kn_mt o).2.1) ∧ Int32.ofInt n = x) ∧ nx = pc + 3 := by simpa [kn_okB] using hokB
    obtain ⟨⟨⟨rfl, h3⟩, h4⟩, hnx⟩ := h2
    simp only [kn_row] at h
    split at h
    · rename_i v hv
      cases h
      obtain ⟨z, hz⟩ := List.getElem?_of_mem (am_ll_mem (sA := fun _ => 0) (B := 0) (q := (j, Value.int v)).mpr ⟨vI v, am_getD (am_rl_get (ρ := fun q => b + q) hv), rfl⟩)
      refine lv_iinc hx hb (am_dl hd0 hnx) (am_lo_has hlo) hz (by rw [h4]) h3 rfl (fun ls1 hl1 => hN _ _ _ _ (fun hk => (hokN hk).trans hnx) hs1 hW ?_)
      show am_lo _ _ _ _ (am_rl _ (lv.set j (some (.inl (v + x)))))
      rw [am_rl_set]
      exact am_lo_set (v := vI (v + x)) hlo rfl hl1
    · cases h
  case iconst n =>
    have h2 : Int32.ofInt n = x ∧ nx = pc + 1 := by simpa [kn_okB] using hokB
    cases h
    exact lv_iconst hx hb (am_dl hd0 h2.2) h2.1 (hN _ _ _ _ (fun hk => (hokN hk).trans h2.2) hs1 hW hlo)
  case bipush n =>
    have h2 : (Int8.ofInt n).toInt32 = x ∧ nx = pc + 2 := by simpa [kn_okB] using hokB
    cases h
    exact lv_bipush hx hb (am_dl hd0 h2.2) h2.1 (hN _ _ _ _ (fun hk => (hokN hk).trans h2.2) hs1 hW hlo)
  case sipush n =>
    have h2 : (Int16.ofInt n).toInt32 = x ∧ nx = pc + 3 := by simpa [kn_okB] using hokB
    cases h
    exact lv_sipush hx hb (am_dl hd0 h2.2) h2.1 (hN _ _ _ _ (fun hk => (hokN hk).trans h2.2) hs1 hW hlo)
  case ldc j =>
    simp only [kn_okB, Bool.and_eq_true, beq_iff_eq] at hokB
    obtain ⟨hnx, hcp⟩ := hokB
    cases h
    exact lv_ldc hx hb hown (am_const hts hcp) (am_dl hd0 hnx) (hN _ _ _ _ (fun hk => (hokN hk).trans hnx) hs1 hW hlo)
  case dup =>
    have hnx : nx = pc + 1 := by simpa [kn_okB] using hokB
    simp only [kn_row] at h
    split at h
    · cases h
      exact lv_dup hx hb (am_dl hd0 hnx) rfl (hN _ _ _ _ (fun hk => (hokN hk).trans hnx) hs1 hW hlo)
    · cases h
  case goto off =>
    have h2 : (pc : Int) + off = (r1 : Int) ∧ nx = pc + 3 := by simpa [kn_okB] using hokB
    cases h
    exact lv_goto hx hb (am_dl hd0 h2.2) h2.1 (hN _ _ _ _ (am_seek_suf _ _).2 (am_seek_suf _ _).1 hW hlo)
  case if_icmp cd off =>
    have h2 : (pc : Int) + off = (r1 : Int) ∧ nx = pc + 3 := by simpa [kn_okB] using hokB
    cases cd
    case ge =>
      simp only [kn_row] at h
      split at h
      · rename_i b0 a0 s1
        cases h
        refine lv_icmp_ge hx hb (am_dl hd0 h2.2) h2.1 (fun h9 => ?_) (fun h9 => ?_)
        · exact hN _ _ _ _ (by show (if b0 ≤ a0 then _ else _) ≠ [] → am_pc (if b0 ≤ a0 then _ else _) = _; rw [if_pos h9]; exact (am_seek_suf _ _).2) (by show am_suf _ (if b0 ≤ a0 then _ else _); rw [if_pos h9]; exact (am_seek_suf _ _).1) hW hlo
        · exact hN _ _ _ _ (by show (if b0 ≤ a0 then _ else _) ≠ [] → am_pc (if b0 ≤ a0 then _ else _) = _; rw [if_neg h9]; exact fun hk => (hokN hk).trans h2.2) (by show am_suf _ (if b0 ≤ a0 then _ else _); rw [if_neg h9]; exact hs1) hW hlo
      · cases h
    all_goals cases h
  case getfield j =>
    simp only [kn_okB, Bool.and_eq_true, decide_eq_true_eq, beq_iff_eq] at hokB
    obtain ⟨⟨⟨⟨hnx, h13⟩, hk⟩, hcp⟩, hft⟩ := hokB
    have hlink := am_link hts hcp
    simp only [kn_row] at h
    split at h
    · rename_i a s1
      split at h
      · rename_i q ha hq
        cases h
        refine am_get hx hb hts (am_in_lays h13) hown hK hW (kn_A ha) h13 hk hlink hft (am_dl hd0 hnx) ?_
        rw [kn_Mp, hq]
        exact hN _ _ _ _ (fun hk => (hokN hk).trans hnx) hs1 hW hlo
      · cases h
    · cases h
  case putfield j =>
    simp only [kn_okB, Bool.and_eq_true, Bool.or_eq_true, decide_eq_true_eq, beq_iff_eq, Bool.not_eq_true'] at hokB
    obtain ⟨⟨⟨⟨hnx, hro⟩, hk⟩, hcp⟩, hft⟩ := hokB
    subst hro
    have hlink := am_link hts hcp
    simp only [kn_row] at h
    split at h
    · rename_i v a s1
      split at h
      · rename_i ha hx0
        cases h
        rcases hft with ⟨⟨hx1, hft⟩, hfin⟩ | ⟨⟨⟨hx1, hft⟩, hfin⟩, hds⟩
        · rw [hx1] at hx0
          exact absurd hx0 (by decide)
        · have hty : am_ty r1 r2 = .int := by unfold am_ty; rw [hds]; decide +kernel
          refine am_put hx hb hts (am_in_lays ho) hown hK hW (kn_A ha) ho hk hlink hft hfin (by rw [hty]; rfl) (by rw [hty]; rfl) (am_dl hd0 hnx) (fun H1 l1 hw => ?_)
          rw [kn_set] at hw
          exact hN _ _ _ _ (fun hk => (hokN hk).trans hnx) hs1 hw hlo
      · cases h
    · rename_i q a s1
      split at h
      · rename_i ha hx0
        cases h
        rcases hft with ⟨⟨hx1, hft⟩, hfin⟩ | ⟨⟨⟨hx1, hft⟩, hfin⟩, hds⟩
        · exact kn_rowF hF0 hW ha hk hlink hft hfin (am_dl hd0 hnx) (fun H1 l1 hw => hN _ _ _ _ (fun hk => (hokN hk).trans hnx) hs1 hw hlo)
        · rw [hx1] at hx0
          exact absurd hx0 (by decide)
      · cases h
    · cases h
  case arraylength =>
    have hnx : nx = pc + 1 := by simpa [kn_okB] using hokB
    simp only [kn_row] at h
    split at h
    · rename_i a s1
      split at h
      · rename_i ha
        cases h
        exact am_alen hx hb hK hW (by decide) (by decide) (kn_A ha) (am_dl hd0 hnx) (hN _ _ _ _ (fun hk => (hokN hk).trans hnx) hs1 hW hlo)
      · cases h
    · cases h
  case aastore =>
    have hnx : nx = pc + 1 := by simpa [kn_okB] using hokB
    simp only [kn_row] at h
    split at h
    · rename_i v i0 a s1
      split at h
      · rename_i hv ha hi
        cases h
        refine am_aast hx hb hK hW (kn_A hv) (kn_A ha) (of_decide_eq_true hi) (am_dl hd0 hnx) (fun H1 l1 hw => ?_)
        rw [kn_setP] at hw
        exact hN _ _ _ _ (fun hk => (hokN hk).trans hnx) hs1 hw hlo
      · cases h
    · cases h
  case iastore =>
    have hnx : nx = pc + 1 := by simpa [kn_okB] using hokB
    simp only [kn_row] at h
    split at h
    · rename_i v i0 a s1
      split at h
      · rename_i ha hi
        cases h
        refine am_iast hx hb hK hW (kn_A ha) (of_decide_eq_true hi) (am_dl hd0 hnx) (fun H1 l1 hw => ?_)
        rw [kn_set] at hw
        exact hN _ _ _ _ (fun hk => (hokN hk).trans hnx) hs1 hw hlo
      · cases h
    · cases h
  case new j =>
    simp only [kn_okB, Bool.and_eq_true, decide_eq_true_eq, beq_iff_eq] at hokB
    obtain ⟨⟨⟨hnx, h13⟩, hr2⟩, hcp⟩ := hokB
    cases h
    subst hr2
    obtain ⟨-, -, t3, t4⟩ := kn_tk r1 h13
    have hKn := hK.1 r1 _ (am_cl_get r1 h13)
    refine W.newcK hx hb hown (kn_cls hts ho hcp) (hts _ (am_tk t4 rfl)) (hts _ (am_tk t3 rfl)) rfl (am_dl hd0 hnx) hle.1 hle.2 hKn.2.1 rfl fun H1 kC hkC e1 z1 o1 => ?_
    have hsz : H.size = b + S.1 := hW.2.2.2 _ rfl
    have h9 := hN (pc + 3) H1 locs ls (fun hk => (hokN hk).trans hnx) hs1 (kn_grow1 (kd := 0) (n := r1) hW z1 o1 ⟨_, am_cl_get r1 h13, (u_born (am_ty r1) hts (am_in_lays h13) hKn hkC e1 (am_pd r1 h13)).to (kn_born r1 h13)⟩ hA) hlo
    rw [hsz]
    exact h9
  case newarray t =>
    simp only [kn_okB, Bool.and_eq_true, Bool.or_eq_true, beq_iff_eq] at hokB
    obtain ⟨hnx, ht⟩ := hokB
    have hsz : H.size = b + S.1 := hW.2.2.2 _ rfl
    obtain ⟨a1, a2, a3, a4, a5, a6⟩ := kn_tac
    simp only [kn_row] at h
    split at h
    · rename_i n s1
      split at h
      · rename_i h1 h2
        cases h
        have h1 := of_decide_eq_true h1
        have h2 := of_decide_eq_true h2
        rcases ht with ((⟨rfl, rfl⟩ | ⟨rfl, rfl⟩) | ⟨rfl, rfl⟩) | ⟨rfl, rfl⟩
        · refine va_newaK (atype := .int) hx hb (hts _ (am_tk a1 rfl)) rfl (am_dl hd0 hnx) rfl h1 rfl (by show n.toNatClampNeg * 4 ≤ _; omega) hle.1 hle.2 rfl fun H1 cA e1 z1 o1 hAr hNm => ?_
          have e : cA = cs.1 := Option.some.inj (hNm.symm.trans (hK.2 0 (cs.1, .int) rfl).2)
          subst e
          have h9 := hN (pc + 2) H1 locs ls (fun hk => (hokN hk).trans hnx) hs1 (kn_grow1 (kd := 1) (n := n.toNatClampNeg) hW z1 o1 e1 hA) hlo
          rw [hsz]
          exact h9
        · refine va_newaK (atype := .byte) hx hb (hts _ (am_tk a2 rfl)) rfl (am_dl hd0 hnx) rfl h1 rfl (by show n.toNatClampNeg * 1 ≤ _; omega) hle.1 hle.2 rfl fun H1 cA e1 z1 o1 hAr hNm => ?_
          have e : cA = cs.2.1 := Option.some.inj (hNm.symm.trans (hK.2 1 (cs.2.1, .byte) rfl).2)
          subst e
          have h9 := hN (pc + 2) H1 locs ls (fun hk => (hokN hk).trans hnx) hs1 (kn_grow1 (kd := 2) (n := n.toNatClampNeg) hW z1 o1 e1 hA) hlo
          rw [hsz]
          exact h9
        · refine va_newaK (atype := .boolean) hx hb (hts _ (am_tk a3 rfl)) rfl (am_dl hd0 hnx) rfl h1 rfl (by show n.toNatClampNeg * 1 ≤ _; omega) hle.1 hle.2 rfl fun H1 cA e1 z1 o1 hAr hNm => ?_
          have e : cA = cs.2.2.1 := Option.some.inj (hNm.symm.trans (hK.2 2 (cs.2.2.1, .boolean) rfl).2)
          subst e
          have h9 := hN (pc + 2) H1 locs ls (fun hk => (hokN hk).trans hnx) hs1 (kn_grow1 (kd := 3) (n := n.toNatClampNeg) hW z1 o1 e1 hA) hlo
          rw [hsz]
          exact h9
        · refine va_newaK (atype := .long) hx hb (hts _ (am_tk a4 rfl)) rfl (am_dl hd0 hnx) rfl h1 rfl (by show n.toNatClampNeg * 8 ≤ _; omega) hle.1 hle.2 rfl fun H1 cA e1 z1 o1 hAr hNm => ?_
          have e : cA = cs.2.2.2.1 := Option.some.inj (hNm.symm.trans (hK.2 3 (cs.2.2.2.1, .long) rfl).2)
          subst e
          have h9 := hN (pc + 2) H1 locs ls (fun hk => (hokN hk).trans hnx) hs1 (kn_grow1 (kd := 4) (n := n.toNatClampNeg) hW z1 o1 e1 hA) hlo
          rw [hsz]
          exact h9
      · cases h
    · cases h
  case anewarray j =>
    simp only [kn_okB, Bool.and_eq_true, beq_iff_eq] at hokB
    obtain ⟨hnx, hcp⟩ := hokB
    have hsz : H.size = b + S.1 := hW.2.2.2 _ rfl
    obtain ⟨a1, a2, a3, a4, a5, a6⟩ := kn_tac
    simp only [kn_row] at h
    split at h
    · rename_i n s1
      split at h
      · rename_i h1 h2
        cases h
        have h1 := of_decide_eq_true h1
        have h2 := of_decide_eq_true h2
        refine W.anew hx hb hown (kn_cls hts ho hcp) (hts _ (am_tk a6 rfl)) rfl (am_dl hd0 hnx) rfl h1 (by omega) hle.1 hle.2 fun cA kA comp f1 f2 f3 f4 => ?_
        generalize hH1 : H.push ({ cls := cA, slots := Array.replicate n.toNatClampNeg .null, vm := .none } : Cell) = H1
        have z1 : H1.size = H.size + 1 := by rw [← hH1, Array.size_push]
        have e1 : H1[H.size]? = some (arrV cA n.toNatClampNeg (fun _ => .null)) := by rw [← hH1, Array.getElem?_push_size, ← arrV_new]
        have o1 : ∀ q : Nat, q < H.size → H1[q]? = H[q]? := fun q hq => by rw [← hH1, Array.getElem?_push, if_neg (Nat.ne_of_lt hq)]
        obtain ⟨kA', comp', k1, k2, k3, k4⟩ := (hK.2 5 (cs.2.2.2.2.2, .object "DayTables$Life") rfl).2
        have e : cA = cs.2.2.2.2.2 := Option.some.inj (f1.symm.trans k4)
        subst e
        have h9 := hN (pc + 3) H1 locs ls (fun hk => (hokN hk).trans hnx) hs1 (kn_grow1 (kd := 6) (n := n.toNatClampNeg) hW z1 o1 (by show H1[H.size]? = some (vp_cell _ _); rw [vp_cell_q]; exact e1) hA) hlo
        rw [hsz]
        exact h9
      · cases h
    · cases h
  case multianewarray j d =>
    simp only [kn_okB, Bool.and_eq_true, beq_iff_eq] at hokB
    obtain ⟨⟨hnx, hd2⟩, hcp⟩ := hokB
    have hsz : H.size = b + S.1 := hW.2.2.2 _ rfl
    obtain ⟨a1, a2, a3, a4, a5, a6⟩ := kn_tac
    obtain ⟨pl, hpl⟩ := kn_any hcp
    simp only [kn_row] at h
    split at h
    · rename_i h0 n s1
      split at h
      · rename_i h1 h2 h3 h4
        cases h
        have h1 := of_decide_eq_true h1
        have h2 := of_decide_eq_true h2
        have h3 := of_decide_eq_true h3
        have h4 := of_decide_eq_true h4
        have hdd : decode (kn_b o) pc = .ok (.multianewarray j 2, 4) := by
          have := am_dl hd0 hnx
          rw [this]
          congr
        have hle1 : kc + 1 + n.toNatClampNeg ≤ R.cells := hle.1
        have hle2 : ks + n.toNatClampNeg + n.toNatClampNeg * h0.toNatClampNeg ≤ R.slots := hle.2
        refine kn_Wmulti hx hb hown (hts _ (am_tk (kn_tcm o ho _ hpl) rfl)) (hts _ (am_tk a5 rfl)) (hts _ (am_tk a1 rfl)) rfl hdd rfl h1 h3 (by omega) (by omega) (by omega) (by omega) fun cA comp H1 f1 f2 z1 e1 e2 o1 => ?_
        have ec : cA = cs.2.2.2.2.1 := Option.some.inj (f1.symm.trans (hK.2 4 (cs.2.2.2.2.1, .array .int) rfl).2)
        have ek : comp = cs.1 := Option.some.inj (f2.symm.trans (hK.2 0 (cs.1, .int) rfl).2)
        subst ec
        subst ek
        have h9 := hN (pc + 4) H1 (locs ++ (List.range n.toNatClampNeg).map fun j => ⟨H.size, j⟩) ls (fun hk => (hokN hk).trans hnx) hs1 (kn_growM hW z1 o1 e1 e2 hA (fun z hz => by
          rcases List.mem_append.mp hz with hz | hz
          · exact Or.inl hz
          · obtain ⟨w, -, rfl⟩ := List.mem_map.mp hz
            exact Or.inr (Nat.le_refl _))) hlo
        rw [hsz] at h9 ⊢
        exact h9
      · cases h
    · cases h
  all_goals (first | cases h | (simp [kn_row] at h; done))
end KNR
