/-! ROWS over the pool: what an instruction does to the machine's memory -/
theorem am_cl_get (ci : Nat) (h : ci < 13) : am_cl[ci]? = some (am_cn ci, am_T ci, am_n ci) := by
  rcases (show ci = 0 ∨ ci = 1 ∨ ci = 2 ∨ ci = 3 ∨ ci = 4 ∨ ci = 5 ∨ ci = 6 ∨ ci = 7 ∨ ci = 8 ∨ ci = 9 ∨ ci = 10 ∨ ci = 11 ∨ ci = 12 by omega) with rfl | rfl | rfl | rfl | rfl | rfl | rfl | rfl | rfl | rfl | rfl | rfl | rfl <;> rfl
theorem am_ft_len : ∀ ci, ci < 13 → (am_ft ci).length = am_n ci := by decide +kernel
theorem am_nm : ∀ ci, ci < 13 → ∀ a, a < am_n ci → ∀ b, b < am_n ci → a ≠ b → (am_T ci a).2.1 ≠ (am_T ci b).2.1 := by decide +kernel
theorem am_pd : ∀ ci, ci < 13 → ∀ k, k < am_n ci → parseFieldDescriptor (am_T ci k).2.2.1 = some (am_ty ci k) := by decide +kernel
theorem am_upd_same (f : Nat → Int32) (k : Nat) (x : Int32) : (fun q => Value.int (upd f k x q)) = updV (fun j => Value.int (f j)) k (.int x) := by
  funext q
  by_cases h : q = k <;> simp [upd, updV, h]
theorem am_upd_long (f : Nat → Int32) (k : Nat) (x : Int32) : (fun q => Value.long (upd f k x q).toInt64) = updV (fun j => Value.long (f j).toInt64) k (.long x.toInt64) := by
  funext q
  by_cases h : q = k <;> simp [upd, updV, h]
section AMR
variable {p : Program} {l : Launch} {e : Env} {R : Room} {s : State} {m : MethodId} {args : Array Value} {below : List Frame} {meth : Method} {c : Code} {H : Heap} {locs : List Loc} {cells slots : Nat} {Q : State → Prop}
variable {cc : ByteArray} {pc : Nat} {ls : Array Slot} {rest : List Value} {D : va_G} {cs : am_CS} {A : Nat → Prop} {M : am_M} {a n : Nat}
theorem am_get (hexec : p.tables.exec = Jvm.exec) (hb : c.code = cc) {own : String} {ci k index : Nat} {Ts : List Cond} {b : Bool} (hts : ∀ w ∈ Ts, w.before args s = true) (hin : ∀ w ∈ u_ws (am_cn ci) (am_T ci) (am_n ci), w ∈ Ts) (hown : s.vm.findClass own = some m.cls) (hK : va_K D am_cl (am_tys cs) s) (hW : am_Wd D cs A s M H locs) (ha : am_A M.1 a 0 ci) (hci : ci < 13) (hk : k < am_n ci)
    (hlink : (Cond.fieldLink own index (am_cn ci) (am_T ci k).2.1 (am_T ci k).2.2.1).before args s = true) (hbt : (am_ft ci)[k]? = some b) (hdg : decode cc pc = .ok (.getfield index, 3))
    (kk : W p l e R s m args below meth c H locs cells slots Q (F0 m (pc + 3) ls (am_fv b ((M.1.2.2 a).2.2 k) (M.2 a k) :: rest))) : W p l e R s m args below meth c H locs cells slots Q (F0 m pc ls (.ref a :: rest)) := by
  obtain ⟨q0, hq⟩ := am_at (cs := cs) ha
  refine va_get hexec hb hts hin hown hK hW.1 q0 (fs := am_fs (am_ft ci) 0 (M.1.2.2 a).2.2 (M.2 a)) hq (am_cl_get ci hci) k hk hlink (fun x h => h) (v := am_fv b ((M.1.2.2 a).2.2 k) (M.2 a k)) ?_ hdg kk
  rw [am_fs_get, hbt, Nat.zero_add]
  rfl
theorem am_put (hexec : p.tables.exec = Jvm.exec) (hb : c.code = cc) {own : String} {ci k index : Nat} {Ts : List Cond} {x : Int32} (hts : ∀ w ∈ Ts, w.before args s = true) (hin : ∀ w ∈ u_ws (am_cn ci) (am_T ci) (am_n ci), w ∈ Ts) (hown : s.vm.findClass own = some m.cls) (hK : va_K D am_cl (am_tys cs) s) (hW : am_Wd D cs A s M H locs) (ha : am_A M.1 a 0 ci) (hci : ci < 13) (hk : k < am_n ci)
    (hlink : (Cond.fieldLink own index (am_cn ci) (am_T ci k).2.1 (am_T ci k).2.2.1).before args s = true) (hbt : (am_ft ci)[k]? = some false) (hfin : (am_T ci k).2.2.2 = false) (hn : narrow (am_ty ci k) (.int x) = .int x) (hfit : fits (am_ty ci k) (.int x) = true) (hdg : decode cc pc = .ok (.putfield index, 3))
    (kk : ∀ (H1 : Heap) (locs1 : List Loc), am_Wd D cs A s (am_set M a k x) H1 locs1 → W p l e R s m args below meth c H1 locs1 cells slots Q (F0 m (pc + 3) ls rest)) : W p l e R s m args below meth c H locs cells slots Q (F0 m pc ls (.int x :: .ref a :: rest)) := by
  obtain ⟨q0, hq⟩ := am_at (cs := cs) ha
  have hc := am_cl_get ci hci
  have hap := va_apart (own := own) hts hin (am_ty ci) (am_pd ci hci) (am_nm ci hci) hK hc
  obtain ⟨r, h1, cell, q1, q2, q3, q4⟩ := hW.1 q0 _ hq
  have hr : r = (am_cn ci, am_T ci, am_n ci) := Option.some.inj (h1.symm.trans hc)
  subst hr
  obtain ⟨hS, hfc, kC, hkC, hkind⟩ := hK.1 ci _ hc
  obtain ⟨cf, kf, fi, f, hi, hsl⟩ := hS k hk
  have hlay := hts _ (hin _ (u_in_lay hk))
  unfold u_lay at hlay
  rw [if_neg (by rw [hfin]; decide)] at hlay
  have hst := (u_facts hfc hkC (u_lays hts hin hk) hi).1
  have h6 := u_store hfc hkC hkind hlay hi (am_pd ci hci k hk) hn hfit
  refine W.putK hexec hb (f := f) ⟨hown, hlink, ⟨_, _, _, hi⟩, hst⟩ (by rw [q2]; exact h6) q1 q3 (by rw [hsl]; exact k2_hasslot (q4 k hk)) rfl rfl hdg fun H' e1 e2 e3 => ?_
  rw [hsl] at e1 ⊢
  refine kk H' _ (am_upd hW ha hq ?_ e2 e3)
  refine ⟨_, hc, t_OB.to (V := updV (vp_V (am_fs (am_ft ci) 0 (M.1.2.2 a).2.2 (M.2 a))) k (.int x)) ⟨_, e1, q2, q3, t_set q4 hap hk _⟩ (fun j _ => ?_)⟩
  have hl : k < (am_fs (am_ft ci) 0 (M.1.2.2 a).2.2 (M.2 a)).length := by rw [am_fs_len, am_ft_len ci hci]; exact hk
  have e9 := am_fs_set (am_ft ci) 0 k (M.1.2.2 a).2.2 (M.2 a) x hbt
  rw [Nat.zero_add] at e9
  rw [vp_updV_set hl, e9]
theorem am_iald (hexec : p.tables.exec = Jvm.exec) (hb : c.code = cc) (hK : va_K D am_cl (am_tys cs) s) (hW : am_Wd D cs A s M H locs) (ha : am_A M.1 a 1 n) {i : Int32} (hin : vp_in i n) (hdg : decode cc pc = .ok (.iaload, 1))
    (kk : W p l e R s m args below meth c H locs cells slots Q (F0 m (pc + 1) ls (.int (M.2 a i.toNatClampNeg) :: rest))) : W p l e R s m args below meth c H locs cells slots Q (F0 m pc ls (.int i :: .ref a :: rest)) := by
  obtain ⟨q0, hq⟩ := am_at (cs := cs) ha
  exact va_iald hexec hb hK hW.1 q0 0 hq rfl hin hdg kk
theorem am_bald (hexec : p.tables.exec = Jvm.exec) (hb : c.code = cc) (hK : va_K D am_cl (am_tys cs) s) (hW : am_Wd D cs A s M H locs) {kd : Nat} (hkd : kd = 2 ∨ kd = 3) (ha : am_A M.1 a kd n) {i : Int32} (hin : vp_in i n) (hdg : decode cc pc = .ok (.baload, 1))
    (kk : W p l e R s m args below meth c H locs cells slots Q (F0 m (pc + 1) ls (.int (M.2 a i.toNatClampNeg) :: rest))) : W p l e R s m args below meth c H locs cells slots Q (F0 m pc ls (.int i :: .ref a :: rest)) := by
  obtain ⟨q0, hq⟩ := am_at (cs := cs) ha
  rcases hkd with rfl | rfl
  · exact va_bald hexec hb hK hW.1 q0 1 hq rfl hin hdg kk
  · exact va_zald hexec hb hK hW.1 q0 2 hq rfl hin hdg kk
theorem am_lald (hexec : p.tables.exec = Jvm.exec) (hb : c.code = cc) (hK : va_K D am_cl (am_tys cs) s) (hW : am_Wd D cs A s M H locs) (ha : am_A M.1 a 4 n) {i : Int32} (hin : vp_in i n) (hdg : decode cc pc = .ok (.laload, 1))
    (kk : W p l e R s m args below meth c H locs cells slots Q (F0 m (pc + 1) ls (.long (M.2 a i.toNatClampNeg).toInt64 :: rest))) : W p l e R s m args below meth c H locs cells slots Q (F0 m pc ls (.int i :: .ref a :: rest)) := by
  obtain ⟨q0, hq⟩ := am_at (cs := cs) ha
  exact va_lald hexec hb hK hW.1 q0 3 (f := fun i => (M.2 a i).toInt64) hq rfl hin hdg kk
theorem am_aald (hexec : p.tables.exec = Jvm.exec) (hb : c.code = cc) (hK : va_K D am_cl (am_tys cs) s) (hW : am_Wd D cs A s M H locs) {kd : Nat} (hkd : kd = 5 ∨ kd = 6) (ha : am_A M.1 a kd n) {i : Int32} (hin : vp_in i n) (hdg : decode cc pc = .ok (.aaload, 1))
    (kk : W p l e R s m args below meth c H locs cells slots Q (F0 m (pc + 1) ls (va_rf ((M.1.2.2 a).2.2 i.toNatClampNeg) :: rest))) : W p l e R s m args below meth c H locs cells slots Q (F0 m pc ls (.int i :: .ref a :: rest)) := by
  obtain ⟨q0, hq⟩ := am_at (cs := cs) ha
  have hlt : i.toNatClampNeg < n := Nat.not_le.mp fun q => hin (Or.inr q)
  rcases hkd with rfl | rfl
  · refine W.aald (v := va_rf ((M.1.2.2 a).2.2 i.toNatClampNeg)) (ty := .array .int) hexec hb (hW.1 q0 _ hq) ((hK.2 4 _ rfl).1 n (fun j => va_rf ((M.1.2.2 a).2.2 j))) rfl (fun q => by cases q) ?_ ?_ rfl rfl hdg kk
    · show ¬ (i < 0 ∨ (arrV _ _ _).slots.size ≤ _)
      rw [arrV_size]
      exact hin
    · show (arrV _ _ _).slots[_]? = _
      rw [arrV_read _ _ hlt]
  · exact va_aldq hexec hb hK hW.1 q0 5 hq rfl hin hdg kk
theorem am_iast (hexec : p.tables.exec = Jvm.exec) (hb : c.code = cc) (hK : va_K D am_cl (am_tys cs) s) (hW : am_Wd D cs A s M H locs) (ha : am_A M.1 a 1 n) {i x : Int32} (hin : vp_in i n) (hdg : decode cc pc = .ok (.iastore, 1))
    (kk : ∀ (H1 : Heap) (locs1 : List Loc), am_Wd D cs A s (am_set M a i.toNatClampNeg x) H1 locs1 → W p l e R s m args below meth c H1 locs1 cells slots Q (F0 m (pc + 1) ls rest)) : W p l e R s m args below meth c H locs cells slots Q (F0 m pc ls (.int x :: .int i :: .ref a :: rest)) := by
  obtain ⟨q0, hq⟩ := am_at (cs := cs) ha
  refine W.iast hexec hb (hW.1 q0 _ hq) ((hK.2 0 _ rfl).1 n (fun j => .int (M.2 a j))) (fun q => by cases q) (by show ¬ (i < 0 ∨ (arrV _ _ _).slots.size ≤ _); rw [arrV_size]; exact hin) rfl rfl hdg fun H1 e z oq => ?_
  refine kk H1 _ (am_upd hW ha hq ?_ z oq)
  show H1[a]? = some (arrV cs.1 n (fun j => .int (upd (M.2 a) i.toNatClampNeg x j)))
  rw [e, am_upd_same]
  exact congrArg some (arrV_store _ _ _ _ _)
theorem am_last (hexec : p.tables.exec = Jvm.exec) (hb : c.code = cc) (hK : va_K D am_cl (am_tys cs) s) (hW : am_Wd D cs A s M H locs) (ha : am_A M.1 a 4 n) {i x : Int32} (hin : vp_in i n) (hdg : decode cc pc = .ok (.lastore, 1))
    (kk : ∀ (H1 : Heap) (locs1 : List Loc), am_Wd D cs A s (am_set M a i.toNatClampNeg x) H1 locs1 → W p l e R s m args below meth c H1 locs1 cells slots Q (F0 m (pc + 1) ls rest)) : W p l e R s m args below meth c H locs cells slots Q (F0 m pc ls (.long x.toInt64 :: .int i :: .ref a :: rest)) := by
  obtain ⟨q0, hq⟩ := am_at (cs := cs) ha
  refine W.last hexec hb (hW.1 q0 _ hq) ((hK.2 3 _ rfl).1 n (fun j => .long (M.2 a j).toInt64)) (fun q => by cases q) (by show ¬ (i < 0 ∨ (arrV _ _ _).slots.size ≤ _); rw [arrV_size]; exact hin) rfl rfl hdg fun H1 e z oq => ?_
  refine kk H1 _ (am_upd hW ha hq ?_ z oq)
  show H1[a]? = some (arrV cs.2.2.2.1 n (fun j => .long (upd (M.2 a) i.toNatClampNeg x j).toInt64))
  rw [e, am_upd_long]
  exact congrArg some (arrV_store _ _ _ _ _)
theorem am_bast (hexec : p.tables.exec = Jvm.exec) (hb : c.code = cc) (hK : va_K D am_cl (am_tys cs) s) (hW : am_Wd D cs A s M H locs) (ha : am_A M.1 a 2 n) {i x : Int32} (hin : vp_in i n) (hdg : decode cc pc = .ok (.bastore, 1))
    (kk : ∀ (H1 : Heap) (locs1 : List Loc), am_Wd D cs A s (am_set M a i.toNatClampNeg (vp_nar .byte x)) H1 locs1 → W p l e R s m args below meth c H1 locs1 cells slots Q (F0 m (pc + 1) ls rest)) : W p l e R s m args below meth c H locs cells slots Q (F0 m pc ls (.int x :: .int i :: .ref a :: rest)) := by
  obtain ⟨q0, hq⟩ := am_at (cs := cs) ha
  refine W.bast hexec hb (hW.1 q0 _ hq) ((hK.2 1 _ rfl).1 n (fun j => .int (M.2 a j))) (fun q => by cases q) (by show ¬ (i < 0 ∨ (arrV _ _ _).slots.size ≤ _); rw [arrV_size]; exact hin) rfl rfl hdg fun H1 e z oq => ?_
  refine kk H1 _ (am_upd hW ha hq ?_ z oq)
  show H1[a]? = some (arrV cs.2.1 n (fun j => .int (upd (M.2 a) i.toNatClampNeg (vp_nar .byte x) j)))
  rw [e, am_upd_same]
  exact congrArg some (arrV_store _ _ _ _ _)
theorem am_zast (hexec : p.tables.exec = Jvm.exec) (hb : c.code = cc) (hK : va_K D am_cl (am_tys cs) s) (hW : am_Wd D cs A s M H locs) (ha : am_A M.1 a 3 n) {i x : Int32} (hin : vp_in i n) (hdg : decode cc pc = .ok (.bastore, 1))
    (kk : ∀ (H1 : Heap) (locs1 : List Loc), am_Wd D cs A s (am_set M a i.toNatClampNeg (vp_nar .boolean x)) H1 locs1 → W p l e R s m args below meth c H1 locs1 cells slots Q (F0 m (pc + 1) ls rest)) : W p l e R s m args below meth c H locs cells slots Q (F0 m pc ls (.int x :: .int i :: .ref a :: rest)) := by
  obtain ⟨q0, hq⟩ := am_at (cs := cs) ha
  refine W.zast hexec hb (hW.1 q0 _ hq) ((hK.2 2 _ rfl).1 n (fun j => .int (M.2 a j))) (fun q => by cases q) (by show ¬ (i < 0 ∨ (arrV _ _ _).slots.size ≤ _); rw [arrV_size]; exact hin) rfl rfl hdg fun H1 e z oq => ?_
  refine kk H1 _ (am_upd hW ha hq ?_ z oq)
  show H1[a]? = some (arrV cs.2.2.1 n (fun j => .int (upd (M.2 a) i.toNatClampNeg (vp_nar .boolean x) j)))
  rw [e, am_upd_same]
  exact congrArg some (arrV_store _ _ _ _ _)
theorem am_aast (hexec : p.tables.exec = Jvm.exec) (hb : c.code = cc) (hK : va_K D am_cl (am_tys cs) s) (hW : am_Wd D cs A s M H locs) {v : Nat} (hv : am_A M.1 v 0 6) (ha : am_A M.1 a 6 n) {i : Int32} (hin : vp_in i n) (hdg : decode cc pc = .ok (.aastore, 1))
    (kk : ∀ (H1 : Heap) (locs1 : List Loc), am_Wd D cs A s (am_ptr M a i.toNatClampNeg v) H1 locs1 → W p l e R s m args below meth c H1 locs1 cells slots Q (F0 m (pc + 1) ls rest)) : W p l e R s m args below meth c H locs cells slots Q (F0 m pc ls (.ref v :: .int i :: .ref a :: rest)) := by
  obtain ⟨q0, hq⟩ := am_at (cs := cs) ha
  obtain ⟨qk, hqk⟩ := am_at (cs := cs) hv
  have hlt : i.toNatClampNeg < n := Nat.not_le.mp fun q => hin (Or.inr q)
  have h0 : ¬ i < 0 := fun q => hin (Or.inl q)
  obtain ⟨r', hr', cellV, g1, g2, g3, -⟩ := hW.1 qk _ hqk
  have hcls := (hK.1 6 _ (am_cl_get 6 (by omega))).2
  obtain ⟨kA, comp, k1, k2, k3, -⟩ := (hK.2 5 (cs.2.2.2.2.2, .object "DayTables$Life") rfl).2
  have hcomp : comp = D.1 6 := Option.some.inj (k3.symm.trans hcls.1)
  subst hcomp
  obtain ⟨kC, hkC, -⟩ := hcls.2
  refine W.aast hexec hb (hW.1 q0 _ hq) (fun q h => by cases h) (fun h => by cases h) k1 k2 rfl hkC ⟨h0, by show _ < (arrV _ _ _).slots.size; rw [arrV_size]; exact hlt⟩ g1 (fun q h => by rw [g3] at h; cases h) (by rw [g2]; exact hkC) (by rw [g2]; exact va_assign hcls) rfl rfl hdg fun H1 e z oq => ?_
  refine kk H1 _ (am_updP hW ha hq ?_ z oq)
  show H1[a]? = some (arrV cs.2.2.2.2.2 n (fun j => va_rf (va_up (M.1.2.2 a).2.2 i.toNatClampNeg (some v) j)))
  rw [e]
  have e9 : (fun j => va_rf (va_up (M.1.2.2 a).2.2 i.toNatClampNeg (some v) j)) = updV (fun j => va_rf ((M.1.2.2 a).2.2 j)) i.toNatClampNeg (.ref v) := by
    funext q
    by_cases hq9 : q = i.toNatClampNeg <;> simp [va_up, updV, hq9, va_rf]
  rw [e9]
  exact congrArg some (arrV_store _ _ _ _ _)
theorem am_alen (hexec : p.tables.exec = Jvm.exec) (hb : c.code = cc) (hK : va_K D am_cl (am_tys cs) s) (hW : am_Wd D cs A s M H locs) {kd : Nat} (h0 : kd ≠ 0) (h6 : kd ≤ 6) (ha : am_A M.1 a kd n) (hdg : decode cc pc = .ok (.arraylength, 1))
    (kk : W p l e R s m args below meth c H locs cells slots Q (F0 m (pc + 1) ls (.int (nI n) :: rest))) : W p l e R s m args below meth c H locs cells slots Q (F0 m pc ls (.ref a :: rest)) := by
  obtain ⟨q0, hq⟩ := am_at (cs := cs) ha
  rcases (show kd = 1 ∨ kd = 2 ∨ kd = 3 ∨ kd = 4 ∨ kd = 5 ∨ kd = 6 by omega) with rfl | rfl | rfl | rfl | rfl | rfl
  · exact va_alen hexec hb hK hW.1 q0 0 hq rfl rfl hdg kk
  · exact va_alen hexec hb hK hW.1 q0 1 hq rfl rfl hdg kk
  · exact va_alen hexec hb hK hW.1 q0 2 hq rfl rfl hdg kk
  · exact va_alen hexec hb hK hW.1 q0 3 hq rfl rfl hdg kk
  · exact va_alen hexec hb hK hW.1 q0 4 hq rfl rfl hdg kk
  · exact va_alen hexec hb hK hW.1 q0 5 hq rfl rfl hdg kk
end AMR
