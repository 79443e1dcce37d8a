/-! CONSTRUCTORS: a row -/
section KNR
variable {p : Program} {l : Launch} {e : Env} {R : Room} {s : State} {m : MethodId} {args : Array Value} {below : List Frame} {meth : Method} {c : Code} {Q : State → Prop} {o b : Nat} {D : va_G} {cs : am_CS}
variable {k full : List am_CE} {lv : List (Option AV)} {st : List AV} {S : kn_S} {kc ks : Nat}
set_option maxHeartbeats 8000000 in
theorem kn_step {pc nx r1 r2 : Nat} {i : Instr} {x : Int32} {r : kn_R} (hF : kn_Fx p s m args meth c o b D cs) (h : kn_row (kn_mt o).1 k (pc, i, nx, r1, r2, x) lv st S kc ks = some r) (hle : r.2.2.2.2.1 ≤ R.cells ∧ r.2.2.2.2.2 ≤ R.slots) (hN : kn_G p l e R s m args below meth c Q o b D cs r) :
    kn_G p l e R s m args below meth c Q o b D cs ((pc, i, nx, r1, r2, x) :: k, lv, st, S, kc, ks) := by
  intro pc0 H locs ls hpc hsuf0 hW0 hlo0
  have hF0 := hF
  obtain ⟨hx, hb, hml, hown, hts, hK, hNW, hin2, hbs, ho⟩ := hF
  have hsuf : am_suf (kn_mt o).1 ((pc, i, nx, r1, r2, x) :: k) := hsuf0
  have hd0 := kn_tdec o ho _ (am_suf_mem hsuf)
  obtain ⟨hokB, hokN⟩ := kn_okL_suf hsuf (kn_tok o ho)
  have hpc1 : pc = pc0 := hpc (by simp)
  subst hpc1
  have hA : ∀ q, s.heap.size ≤ q → kn_A0 b q := fun q h => Nat.le_trans hbs h
  have hs1 := am_suf_tail hsuf
  dsimp only at hokN hd0
  have hlo : am_lo (fun _ => 0) 0 ls (kn_mt o).2.1 (am_rl (fun q => b + q) lv) := hlo0
  have hW : am_Wd D cs (kn_A0 b) s (kn_M b S) H locs := hW0
  clear hsuf0 hlo0 hW0
  show W p l e R s m args below meth c H locs kc ks Q (F0 m pc ls (st.map (kn_v b)))
  cases i
  case aload_n j =>
    have h2 : j.val = r1 ∧ nx = pc + 1 := by simpa [kn_okB] using hokB
    simp only [kn_row] at h
    split at h
    · rename_i a hv
      cases h
      have h3 := (hlo.2.2 _ _ (am_getD (am_rl_get (ρ := fun q => b + q) hv))).2
      exact lv_aload_n hx hb (am_dl hd0 h2.2) h2.1 h3 (hN _ _ _ _ (fun hk => (hokN hk).trans h2.2) hs1 hW hlo)
    · cases h
  case iload_n j =>
    have h2 : j.val = r1 ∧ nx = pc + 1 := by simpa [kn_okB] using hokB
    simp only [kn_row] at h
    split at h
    · rename_i a hv
      cases h
      have h3 := (hlo.2.2 _ _ (am_getD (am_rl_get (ρ := fun q => b + q) hv))).2
      exact lv_iload_n hx hb (am_dl hd0 h2.2) h2.1 h3 (hN _ _ _ _ (fun hk => (hokN hk).trans h2.2) hs1 hW hlo)
    · cases h
  case istore_n j =>
    have h2 : (j.val = r1 ∧ r1 < (kn_mt o).2.1) ∧ nx = pc + 1 := by simpa [kn_okB] using hokB
    simp only [kn_row] at h
    split at h
    · rename_i v s1
      cases h
      refine lv_istore_n hx hb (am_dl hd0 h2.2) h2.1.1 (am_lo_has hlo) h2.1.2 rfl (fun ls1 hl1 => hN _ _ _ _ (fun hk => (hokN hk).trans h2.2) hs1 hW ?_)
      show am_lo _ _ _ _ (am_rl _ (lv.set r1 (some (.inl v))))
      rw [am_rl_set]
      exact am_lo_set (v := vI v) hlo rfl hl1
    · cases h
  case iinc j n =>
    have h2 : ((j = r1 ∧ r1 < (kn_mt o).2.1) ∧ Int32.ofInt n = x) ∧ nx = pc + 3 := by simpa [kn_okB] using hokB
    obtain ⟨⟨⟨rfl, h3⟩, h4⟩, hnx⟩ := h2
    simp only [kn_row] at h
    split at h
    · rename_i v hv
      cases h
      obtain ⟨z, hz⟩ := List.getElem?_of_mem (am_ll_mem (sA := fun _ => 0) (B := 0) (q := (j, Value.int v)).mpr ⟨vI v, am_getD (am_rl_get (ρ := fun q => b + q) hv), rfl⟩)
      refine lv_iinc hx hb (am_dl hd0 hnx) (am_lo_has hlo) hz (by rw [h4]) h3 rfl (fun ls1 hl1 => hN _ _ _ _ (fun hk => (hokN hk).trans hnx) hs1 hW ?_)
      show am_lo _ _ _ _ (am_rl _ (lv.set j (some (.inl (v + x)))))
      rw [am_rl_set]
      exact am_lo_set (v := vI (v + x)) hlo rfl hl1
    · cases h
  case iconst n =>
    have h2 : Int32.ofInt n = x ∧ nx = pc + 1 := by simpa [kn_okB] using hokB
    cases h
    exact lv_iconst hx hb (am_dl hd0 h2.2) h2.1 (hN _ _ _ _ (fun hk => (hokN hk).trans h2.2) hs1 hW hlo)
  case bipush n =>
    have h2 : (Int8.ofInt n).toInt32 = x ∧ nx = pc + 2 := by simpa [kn_okB] using hokB
    cases h
    exact lv_bipush hx hb (am_dl hd0 h2.2) h2.1 (hN _ _ _ _ (fun hk => (hokN hk).trans h2.2) hs1 hW hlo)
  case sipush n =>
    have h2 : (Int16.ofInt n).toInt32 = x ∧ nx = pc + 3 := by simpa [kn_okB] using hokB
    cases h
    exact lv_sipush hx hb (am_dl hd0 h2.2) h2.1 (hN _ _ _ _ (fun hk => (hokN hk).trans h2.2) hs1 hW hlo)
  case ldc j =>
    simp only [kn_okB, Bool.and_eq_true, beq_iff_eq] at hokB
    obtain ⟨hnx, hcp⟩ := hokB
    cases h
    exact lv_ldc hx hb hown (am_const hts hcp) (am_dl hd0 hnx) (hN _ _ _ _ (fun hk => (hokN hk).trans hnx) hs1 hW hlo)
  case dup =>
    have hnx : nx = pc + 1 := by simpa [kn_okB] using hokB
    simp only [kn_row] at h
    split at h
    · cases h
      exact lv_dup hx hb (am_dl hd0 hnx) rfl (hN _ _ _ _ (fun hk => (hokN hk).trans hnx) hs1 hW hlo)
    · cases h
  case goto off =>
    have h2 : (pc : Int) + off = (r1 : Int) ∧ nx = pc + 3 := by simpa [kn_okB] using hokB
    cases h
    exact lv_goto hx hb (am_dl hd0 h2.2) h2.1 (hN _ _ _ _ (am_seek_suf _ _).2 (am_seek_suf _ _).1 hW hlo)
  case if_icmp cd off =>
    have h2 : (pc : Int) + off = (r1 : Int) ∧ nx = pc + 3 := by simpa [kn_okB] using hokB
    cases cd
    case ge =>
      simp only [kn_row] at h
      split at h
      · rename_i b0 a0 s1
        cases h
        refine lv_icmp_ge hx hb (am_dl hd0 h2.2) h2.1 (fun h9 => ?_) (fun h9 => ?_)
        · exact hN _ _ _ _ (by show (if b0 ≤ a0 then _ else _) ≠ [] → am_pc (if b0 ≤ a0 then _ else _) = _; rw [if_pos h9]; exact (am_seek_suf _ _).2) (by show am_suf _ (if b0 ≤ a0 then _ else _); rw [if_pos h9]; exact (am_seek_suf _ _).1) hW hlo
        · exact hN _ _ _ _ (by show (if b0 ≤ a0 then _ else _) ≠ [] → am_pc (if b0 ≤ a0 then _ else _) = _; rw [if_neg h9]; exact fun hk => (hokN hk).trans h2.2) (by show am_suf _ (if b0 ≤ a0 then _ else _); rw [if_neg h9]; exact hs1) hW hlo
      · cases h
    all_goals cases h
  case getfield j =>
    simp only [kn_okB, Bool.and_eq_true, decide_eq_true_eq, beq_iff_eq] at hokB
    obtain ⟨⟨⟨⟨hnx, h13⟩, hk⟩, hcp⟩, hft⟩ := hokB
    have hlink := am_link hts hcp
    simp only [kn_row] at h
    split at h
    · rename_i a s1
      split at h
      · rename_i q ha hq
        cases h
        refine am_get hx hb hts (am_in_lays h13) hown hK hW (kn_A ha) h13 hk hlink hft (am_dl hd0 hnx) ?_
        rw [kn_Mp, hq]
        exact hN _ _ _ _ (fun hk => (hokN hk).trans hnx) hs1 hW hlo
      · cases h
    · cases h
  case putfield j =>
    simp only [kn_okB, Bool.and_eq_true, Bool.or_eq_true, decide_eq_true_eq, beq_iff_eq, Bool.not_eq_true'] at hokB
    obtain ⟨⟨⟨⟨hnx, hro⟩, hk⟩, hcp⟩, hft⟩ := hokB
    subst hro
    have hlink := am_link hts hcp
    simp only [kn_row] at h
    split at h
    · rename_i v a s1
      split at h
      · rename_i ha hx0
        cases h
        rcases hft with ⟨⟨hx1, hft⟩, hfin⟩ | ⟨⟨⟨hx1, hft⟩, hfin⟩, hds⟩
        · rw [hx1] at hx0
          exact absurd hx0 (by decide)
        · have hty : am_ty r1 r2 = .int := by unfold am_ty; rw [hds]; decide +kernel
          refine am_put hx hb hts (am_in_lays ho) hown hK hW (kn_A ha) ho hk hlink hft hfin (by rw [hty]; rfl) (by rw [hty]; rfl) (am_dl hd0 hnx) (fun H1 l1 hw => ?_)
          rw [kn_set] at hw
          exact hN _ _ _ _ (fun hk => (hokN hk).trans hnx) hs1 hw hlo
      · cases h
    · rename_i q a s1
      split at h
      · rename_i ha hx0
        cases h
        rcases hft with ⟨⟨hx1, hft⟩, hfin⟩ | ⟨⟨⟨hx1, hft⟩, hfin⟩, hds⟩
        · exact kn_rowF hF0 hW ha hk hlink hft hfin (am_dl hd0 hnx) (fun H1 l1 hw => hN _ _ _ _ (fun hk => (hokN hk).trans hnx) hs1 hw hlo)
        · rw [hx1] at hx0
          exact absurd hx0 (by decide)
      · cases h
    · cases h
  case arraylength =>
    have hnx : nx = pc + 1 := by simpa [kn_okB] using hokB
    simp only [kn_row] at h
    split at h
    · rename_i a s1
      split at h
      · rename_i ha
        cases h
        exact am_alen hx hb hK hW (by decide) (by decide) (kn_A ha) (am_dl hd0 hnx) (hN _ _ _ _ (fun hk => (hokN hk).trans hnx) hs1 hW hlo)
      · cases h
    · cases h
  case aastore =>
    have hnx : nx = pc + 1 := by simpa [kn_okB] using hokB
    simp only [kn_row] at h
    split at h
    · rename_i v i0 a s1
      split at h
      · rename_i hv ha hi
        cases h
        refine am_aast hx hb hK hW (kn_A hv) (kn_A ha) (kn_vin_ok hi) (am_dl hd0 hnx) (fun H1 l1 hw => ?_)
        rw [kn_setP] at hw
        exact hN _ _ _ _ (fun hk => (hokN hk).trans hnx) hs1 hw hlo
      · cases h
    · cases h
  case iastore =>
    have hnx : nx = pc + 1 := by simpa [kn_okB] using hokB
    simp only [kn_row] at h
    split at h
    · rename_i v i0 a s1
      split at h
      · rename_i ha hi
        cases h
        refine am_iast hx hb hK hW (kn_A ha) (kn_vin_ok hi) (am_dl hd0 hnx) (fun H1 l1 hw => ?_)
        rw [kn_set] at hw
        exact hN _ _ _ _ (fun hk => (hokN hk).trans hnx) hs1 hw hlo
      · cases h
    · cases h
  case new j =>
    simp only [kn_okB, Bool.and_eq_true, decide_eq_true_eq, beq_iff_eq] at hokB
    obtain ⟨⟨⟨hnx, h13⟩, hr2⟩, hcp⟩ := hokB
    cases h
    subst hr2
    obtain ⟨-, -, t3, t4⟩ := kn_tk r1 h13
    have hKn := hK.1 r1 _ (am_cl_get r1 h13)
    refine W.newcK hx hb hown (kn_cls hts ho hcp) (hts _ (am_tk t4 rfl)) (hts _ (am_tk t3 rfl)) rfl (am_dl hd0 hnx) hle.1 hle.2 hKn.2.1 rfl fun H1 kC hkC e1 z1 o1 => ?_
    have hsz : H.size = b + S.1 := hW.2.2.2 _ rfl
    have h9 := hN (pc + 3) H1 locs ls (fun hk => (hokN hk).trans hnx) hs1 (kn_grow1 (kd := 0) (n := r1) hW z1 o1 ⟨_, am_cl_get r1 h13, (u_born (am_ty r1) hts (am_in_lays h13) hKn hkC e1 (am_pd r1 h13)).to (kn_born r1 h13)⟩ hA) hlo
    rw [hsz]
    exact h9
  case newarray t =>
    simp only [kn_okB, Bool.and_eq_true, Bool.or_eq_true, beq_iff_eq, decide_eq_true_eq] at hokB
    obtain ⟨hnx, ht⟩ := hokB
    have hsz : H.size = b + S.1 := hW.2.2.2 _ rfl
    obtain ⟨a1, a2, a3, a4, a5, a6⟩ := kn_tac
    simp only [kn_row] at h
    split at h
    · rename_i n s1
      split at h
      · rename_i h1 h2
        cases h
        have h1 := of_decide_eq_true h1
        have h2 := of_decide_eq_true h2
        rcases ht with ((⟨rfl, rfl⟩ | ⟨rfl, rfl⟩) | ⟨rfl, rfl⟩) | ⟨rfl, rfl⟩
        · refine va_newaK (atype := .int) hx hb (hts _ (am_tk a1 rfl)) rfl (am_dl hd0 hnx) rfl h1 rfl (by show n.toNatClampNeg * 4 ≤ _; omega) hle.1 hle.2 rfl fun H1 cA e1 z1 o1 hAr hNm => ?_
          have e : cA = cs.1 := Option.some.inj (hNm.symm.trans (hK.2 0 (cs.1, .int) rfl).2)
          subst e
          have h9 := hN (pc + 2) H1 locs ls (fun hk => (hokN hk).trans hnx) hs1 (kn_grow1 (kd := 1) (n := n.toNatClampNeg) hW z1 o1 e1 hA) hlo
          rw [hsz]
          exact h9
        · refine va_newaK (atype := .byte) hx hb (hts _ (am_tk a2 rfl)) rfl (am_dl hd0 hnx) rfl h1 rfl (by show n.toNatClampNeg * 1 ≤ _; omega) hle.1 hle.2 rfl fun H1 cA e1 z1 o1 hAr hNm => ?_
          have e : cA = cs.2.1 := Option.some.inj (hNm.symm.trans (hK.2 1 (cs.2.1, .byte) rfl).2)
          subst e
          have h9 := hN (pc + 2) H1 locs ls (fun hk => (hokN hk).trans hnx) hs1 (kn_grow1 (kd := 2) (n := n.toNatClampNeg) hW z1 o1 e1 hA) hlo
          rw [hsz]
          exact h9
        · refine va_newaK (atype := .boolean) hx hb (hts _ (am_tk a3 rfl)) rfl (am_dl hd0 hnx) rfl h1 rfl (by show n.toNatClampNeg * 1 ≤ _; omega) hle.1 hle.2 rfl fun H1 cA e1 z1 o1 hAr hNm => ?_
          have e : cA = cs.2.2.1 := Option.some.inj (hNm.symm.trans (hK.2 2 (cs.2.2.1, .boolean) rfl).2)
          subst e
          have h9 := hN (pc + 2) H1 locs ls (fun hk => (hokN hk).trans hnx) hs1 (kn_grow1 (kd := 3) (n := n.toNatClampNeg) hW z1 o1 e1 hA) hlo
          rw [hsz]
          exact h9
        · refine va_newaK (atype := .long) hx hb (hts _ (am_tk a4 rfl)) rfl (am_dl hd0 hnx) rfl h1 rfl (by show n.toNatClampNeg * 8 ≤ _; omega) hle.1 hle.2 rfl fun H1 cA e1 z1 o1 hAr hNm => ?_
          have e : cA = cs.2.2.2.1 := Option.some.inj (hNm.symm.trans (hK.2 3 (cs.2.2.2.1, .long) rfl).2)
          subst e
          have h9 := hN (pc + 2) H1 locs ls (fun hk => (hokN hk).trans hnx) hs1 (kn_grow1 (kd := 4) (n := n.toNatClampNeg) hW z1 o1 e1 hA) hlo
          rw [hsz]
          exact h9
      · cases h
    · cases h
  case anewarray j =>
    simp only [kn_okB, Bool.and_eq_true, beq_iff_eq] at hokB
    obtain ⟨hnx, hcp⟩ := hokB
    have hsz : H.size = b + S.1 := hW.2.2.2 _ rfl
    obtain ⟨a1, a2, a3, a4, a5, a6⟩ := kn_tac
    simp only [kn_row] at h
    split at h
    · rename_i n s1
      split at h
      · rename_i h1 h2
        cases h
        have h1 := of_decide_eq_true h1
        have h2 := of_decide_eq_true h2
        refine W.anew hx hb hown (kn_cls hts ho hcp) (va_AO.use hNW.2.1) rfl (am_dl hd0 hnx) rfl h1 (by omega) hle.1 hle.2 fun cA kA comp f1 f2 f3 f4 => ?_
        generalize hH1 : H.push ({ cls := cA, slots := Array.replicate n.toNatClampNeg .null, vm := .none } : Cell) = H1
        have z1 : H1.size = H.size + 1 := by rw [← hH1, Array.size_push]
        have e1 : H1[H.size]? = some (arrV cA n.toNatClampNeg (fun _ => .null)) := by rw [← hH1, Array.getElem?_push_size, ← arrV_new]
        have o1 : ∀ q : Nat, q < H.size → H1[q]? = H[q]? := fun q hq => by rw [← hH1, Array.getElem?_push, if_neg (Nat.ne_of_lt hq)]
        obtain ⟨kA', comp', k1, k2, k3, k4⟩ := (hK.2 5 (cs.2.2.2.2.2, .object "DayTables$Life") rfl).2
        have e : cA = cs.2.2.2.2.2 := Option.some.inj (f1.symm.trans k4)
        subst e
        have h9 := hN (pc + 3) H1 locs ls (fun hk => (hokN hk).trans hnx) hs1 (kn_grow1 (kd := 6) (n := n.toNatClampNeg) hW z1 o1 (by show H1[H.size]? = some (vp_cell _ _); rw [vp_cell_q]; exact e1) hA) hlo
        rw [hsz]
        exact h9
      · cases h
    · cases h
  case multianewarray j d =>
    simp only [kn_okB, Bool.and_eq_true, beq_iff_eq] at hokB
    obtain ⟨⟨hnx, hd2⟩, hcp⟩ := hokB
    have hsz : H.size = b + S.1 := hW.2.2.2 _ rfl
    obtain ⟨a1, a2, a3, a4, a5, a6⟩ := kn_tac
    obtain ⟨pl, hpl⟩ := kn_any hcp
    simp only [kn_row] at h
    split at h
    · rename_i h0 n s1
      split at h
      · rename_i h1 h2 h3 h4
        cases h
        have h1 := of_decide_eq_true h1
        have h2 := of_decide_eq_true h2
        have h3 := of_decide_eq_true h3
        have h4 := of_decide_eq_true h4
        have hdd : decode (kn_b o) pc = .ok (.multianewarray j 2, 4) := by
          have := am_dl hd0 hnx
          subst hd2
          exact this
        have hle1 : kc + 1 + n.toNatClampNeg ≤ R.cells := hle.1
        have hle2 : ks + n.toNatClampNeg + n.toNatClampNeg * h0.toNatClampNeg ≤ R.slots := hle.2
        refine kn_Wmulti hx hb hown (hts _ (am_tk (kn_tcm o ho _ hpl) rfl)) hNW.2.2 (hts _ (am_tk a1 rfl)) rfl hdd rfl h1 h3 (by omega) (by omega) (by omega) (by omega) fun cA comp H1 f1 f2 z1 e1 e2 o1 => ?_
        have ec : cA = cs.2.2.2.2.1 := Option.some.inj (f1.symm.trans (hK.2 4 (cs.2.2.2.2.1, .array .int) rfl).2)
        have ek : comp = cs.1 := Option.some.inj (f2.symm.trans (hK.2 0 (cs.1, .int) rfl).2)
        subst ec
        subst ek
        have h9 := hN (pc + 4) H1 (locs ++ (List.range n.toNatClampNeg).map fun j => ⟨H.size, j⟩) ls (fun hk => (hokN hk).trans hnx) hs1 (kn_growM hW z1 o1 e1 e2 hA (fun z hz => by
          rcases List.mem_append.mp hz with hz | hz
          · exact Or.inl hz
          · obtain ⟨w, -, rfl⟩ := List.mem_map.mp hz
            exact Or.inr (Nat.le_refl _))) hlo
        rw [hsz] at h9 ⊢
        exact h9
      · cases h
    · cases h
  all_goals (first | cases h | (simp [kn_row] at h; done))
end KNR
