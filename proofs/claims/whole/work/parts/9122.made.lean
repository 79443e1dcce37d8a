/-! CONSTRUCTORS: what the machine of making says, the constructors do -/
def kn_v (b : Nat) (v : AV) : Value := am_v (fun _ => 0) 0 (am_rv (fun q => b + q) v)
def kn_NW (U : State) : Prop := (∀ w ∈ lw_tbl, am_isB w = true → va_Nw w U) ∧ va_AO (am_cn 6) U ∧ kn_AI U
def kn_rm (dep kc ks : Nat) : Room := { frames := dep + 1, cells := kc, slots := ks, locals := 40 * (dep + 1) }
def kn_ws (o : Nat) : List Cond := Cond.code (kn_y o) (kn_b o) (kn_mt o).2.1 none :: am_TG
def kn_A0 (b : Nat) : Nat → Prop := fun q => b ≤ q
def kn_Pre (D : va_G) (cs : am_CS) (b : Nat) (S : kn_S) (av : List AV) : Array Value → State → Prop := va_Pc (av.map (kn_v b)) (fun U => U.heap.size = b + S.1 ∧ va_P D am_cl (am_W cs (kn_M b S)) U.heap ∧ va_D (kn_A0 b) (am_W cs (kn_M b S)) ∧ va_K D am_cl (am_tys cs) U ∧ kn_NW U)
def kn_Qc (D : va_G) (cs : am_CS) (b : Nat) (S : kn_S) : Array Value → State → Outcome → State → Prop := va_Qv (S := Unit) (fun _ => True) (fun _ t => t.heap.size = b + S.1 ∧ va_P D am_cl (am_W cs (kn_M b S)) t.heap ∧ va_D (kn_A0 b) (am_W cs (kn_M b S))) (kn_A0 b)
def kn_Con (l : Launch) (D : va_G) (cs : am_CS) (dep o : Nat) (av : List AV) (S S' : kn_S) (kc ks : Nat) : Prop := ∀ b, Met l (kn_y o) (kn_ws o) (kn_rm dep kc ks) (kn_Pre D cs b S av) (kn_Qc D cs b S') kc ks (kn_A0 b)
theorem kn_NW.next {s U : State} (hW : s.WarmedH U.vm) (h : kn_NW s) : kn_NW U := ⟨fun w hw hb => am_isB_warm hb hW (h.1 w hw hb), va_AO.moved hW.alike h.2.1, kn_AI.moved hW.alike h.2.2⟩
theorem kn_blind (D : va_G) (cs : am_CS) (b : Nat) (S : kn_S) (av : List AV) : FrameBlind (kn_Pre D cs b S av) := by
  intro a U g mk q
  obtain ⟨q0, q1, q2, q3, q4, q5⟩ := q
  exact ⟨q0, q1, q2, q3, va_K.moved (u := U) (U := U.calling g mk a) (Vm.Alike.refl U.vm) q4, kn_NW.next (s := U) (U := U.calling g mk a) (State.WarmedH.refl U) q5⟩
section KNR
variable {p : Program} {l : Launch} {e : Env} {R : Room} {s : State} {m : MethodId} {args : Array Value} {below : List Frame} {meth : Method} {c : Code} {Q : State → Prop} {o b : Nat} {D : va_G} {cs : am_CS}
variable {k full : List am_CE} {lv : List (Option AV)} {st : List AV} {S : kn_S} {kc ks : Nat}
def kn_Fx (p : Program) (s : State) (m : MethodId) (args : Array Value) (meth : Method) (c : Code) (o b : Nat) (D : va_G) (cs : am_CS) : Prop :=
  p.tables.exec = Jvm.exec ∧ c.code = kn_b o ∧ c.maxLocals = (kn_mt o).2.1 ∧ s.vm.findClass (am_cn o) = some m.cls ∧ (∀ w ∈ am_TG, w.before args s = true) ∧ va_K D am_cl (am_tys cs) s ∧ kn_NW s ∧ meth.name = "<init>" ∧ b ≤ s.heap.size ∧ o < 13
def kn_G (p : Program) (l : Launch) (e : Env) (R : Room) (s : State) (m : MethodId) (args : Array Value) (below : List Frame) (meth : Method) (c : Code) (Q : State → Prop) (o b : Nat) (D : va_G) (cs : am_CS) (r : kn_R) : Prop :=
  ∀ (pc : Nat) (H : Heap) (locs : List Loc) (ls : Array Slot), (r.1 ≠ [] → am_pc r.1 = pc) → am_suf (kn_mt o).1 r.1 → am_Wd D cs (kn_A0 b) s (kn_M b r.2.2.2.1) H locs → am_lo (fun _ => 0) 0 ls (kn_mt o).2.1 (am_rl (fun q => b + q) r.2.1) → W p l e R s m args below meth c H locs r.2.2.2.2.1 r.2.2.2.2.2 Q (F0 m pc ls (r.2.2.1.map (kn_v b)))
/-- a final field, a reference -/
theorem kn_rowF {H : Heap} {locs : List Loc} {ls : Array Slot} {rest : List Value} {pc a j r2 q : Nat} (hF : kn_Fx p s m args meth c o b D cs) (hW : am_Wd D cs (kn_A0 b) s (kn_M b S) H locs) (ha : kn_is S a 0 o = true) (hk : r2 < am_n o)
    (hlink : (Cond.fieldLink (am_cn o) j (am_cn o) (am_T o r2).2.1 (am_T o r2).2.2.1).before args s = true) (hbt : (am_ft o)[r2]? = some true) (hfin : (am_T o r2).2.2.2 = true) (hdg : decode (kn_b o) pc = .ok (.putfield j, 3))
    (kk : ∀ (H1 : Heap) (locs1 : List Loc), am_Wd D cs (kn_A0 b) s (kn_M b (kn_ptr S a r2 q)) H1 locs1 → W p l e R s m args below meth c H1 locs1 kc ks Q (F0 m (pc + 3) ls rest)) : W p l e R s m args below meth c H locs kc ks Q (F0 m pc ls (.ref (b + q) :: .ref (b + a) :: rest)) := by
  obtain ⟨hexec, hb, hml, hown, hts, hK, hN, hin2, hbs, ho⟩ := hF
  have ha1 := kn_A (b := b) ha
  obtain ⟨q0, hq⟩ := am_at (cs := cs) ha1
  have hc := am_cl_get o ho
  have hin := am_in_lays ho
  have hap := va_apart (own := am_cn o) hts hin (am_ty o) (am_pd o ho) (am_nm o ho) hK hc
  obtain ⟨r, h1, cell, q1, q2, q3, q4⟩ := hW.1 q0 _ hq
  have hr : r = (am_cn o, am_T o, am_n o) := Option.some.inj (h1.symm.trans hc)
  subst hr
  obtain ⟨hS, hfc, kC, hkC, hkind⟩ := hK.1 o _ hc
  obtain ⟨cf, kf, fi, f, hi, hsl⟩ := hS r2 hk
  have hlay := hts _ (hin _ (u_in_lay hk))
  unfold u_lay at hlay
  rw [if_pos hfin] at hlay
  have hst := (u_facts hfc hkC (u_lays hts hin hk) hi).1
  have hcf : m.cls = cf := by
    obtain ⟨_, _, c', _, _, _, -, -, hf', -, -, -, hown2, -⟩ := Cond.laysFinal_spec hlay
    have e1 : c' = cf := by have := hi.symm.trans hf'; simp at this; exact this.1.symm
    have e0 : (am_T o r2).1 = am_cn o := rfl
    rw [e0] at hown2
    rw [← e1]
    exact Option.some.inj (hown.symm.trans hown2)
  have hnf := kn_reff o ho r2 hk hbt (b + q)
  have h6 := u_fits hfc hkC hkind (Or.inr hlay) hi (am_pd o ho r2 hk) hnf.1 hnf.2
  refine W.putFinK hexec hb hown hlink hi hst hcf hin2 (by rw [q2]; exact h6) q1 q3 (by rw [hsl]; exact k2_hasslot (q4 r2 hk)) rfl rfl hdg fun H' e1 e2 e3 => ?_
  rw [hsl] at e1 ⊢
  have hat : va_at D am_cl (b + a, am_cell cs (0, o, va_up (((kn_M b S).1.2.2 (b + a)).2.2) r2 (some (b + q))) ((kn_M b S).2 (b + a))) H' := by
    refine ⟨_, hc, t_OB.to (V := updV (vp_V (am_fs (am_ft o) 0 ((kn_M b S).1.2.2 (b + a)).2.2 ((kn_M b S).2 (b + a)))) r2 (.ref (b + q))) ⟨_, e1, q2, q3, t_set q4 hap hk _⟩ (fun j _ => ?_)⟩
    have hl : r2 < (am_fs (am_ft o) 0 ((kn_M b S).1.2.2 (b + a)).2.2 ((kn_M b S).2 (b + a))).length := by rw [am_fs_len, am_ft_len o ho]; exact hk
    have e9 := am_fs_setP (am_ft o) 0 r2 ((kn_M b S).1.2.2 (b + a)).2.2 ((kn_M b S).2 (b + a)) (b + q) hbt
    rw [Nat.zero_add] at e9
    rw [vp_updV_set hl, e9]
  have hup := am_updP (j := D.2 o r2) hW ha1 hq hat e2 e3
  have e9 : (((kn_M b S).1.1, (kn_M b S).1.2.1, va_up (kn_M b S).1.2.2 (b + a) (((kn_M b S).1.2.2 (b + a)).1, ((kn_M b S).1.2.2 (b + a)).2.1, va_up (((kn_M b S).1.2.2 (b + a)).2.2) r2 (some (b + q)))), (kn_M b S).2) = kn_M b (kn_ptr S a r2 q) := kn_setP
  rw [e9] at hup
  exact kk H' _ hup
theorem kn_rvv {v : Nat ⊕ (Nat ⊕ (Int32 ⊕ Unit))} : ∃ w, am_rv (fun q => b + q) (.inr v) = .inr w := ⟨_, rfl⟩
theorem kn_any {l : List (Nat × Nat)} {j : Nat} (h : (l.lookup j).any (fun _ => true) = true) : ∃ q, (j, q) ∈ l := by
  obtain ⟨q, h1, -⟩ := am_lookup_any h
  exact ⟨q, h1⟩
theorem kn_cls (hts : ∀ w ∈ am_TG, w.before args s = true) (ho : o < 13) {j ci : Nat} (h : ((kn_cl o).lookup j).any (fun q => q.1 == ci) = true) : (Cond.classLink (am_cn o) j (am_cn ci)).before args s = true := by
  obtain ⟨⟨b1, b2⟩, h1, h2⟩ := am_lookup_any h
  simp only [beq_iff_eq] at h2
  subst h2
  exact hts _ (am_tk (kn_tcl o ho _ h1) rfl)
end KNR
