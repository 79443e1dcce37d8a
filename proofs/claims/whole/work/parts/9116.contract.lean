/-! THE CONTRACTS of all plain methods -/
theorem am_plain (y : Nat) (hy : y < 319) : plainFor (am_y y) = true := by
  have h := (am_w_desc y hy).2.2.1
  rcases Bool.or_eq_true_iff.mp h with h | h
  · exact plainFor_of_name h
  · exact h
theorem am_W_mem {cs : am_CS} {M : am_M} {k : Nat} {q : Nat × va_E} (h : (am_W cs M)[k]? = some q) : q.1 ∈ M.1.2.1 := by
  obtain ⟨a, ha, e⟩ := List.mem_map.mp (List.mem_of_getElem? h)
  rw [← e]
  exact ha
theorem am_sound (l : Launch) (hl : l.stackTraces = false) (D : va_G) (cs : am_CS) (sA aV : Nat → Nat) (B : Nat) (X : Nat × (Nat → Int32)) : ∀ d : Nat, am_CC l D cs sA aV B X d (am_Call X am_SL am_mt d) := by
  intro d
  induction d with
  | zero => intro y av M r h _ _; exact h.elim
  | succ d ih =>
    intro y av M r h hy hlen
    obtain ⟨hrecv, hcat, n, hrun⟩ := h
    refine ⟨hrecv, fun sz => ?_⟩
    obtain ⟨g1, g2, g3, g4, g5, g6, g7, g8, g9⟩ := am_w_desc y hy
    refine am_ofW (cc := am_b y) (maxL := (am_mt y).2.1) (ret := am_rt y) (am_plain y hy) rfl ?_
    intro p e s m args below meth c s₁ Bd hml htab hv
    obtain ⟨rfl, hsz, hP, hD0, hnx, hCx⟩ := hv
    subst hsz
    have hts0 := atoms_spec (ws := am_ws y) Bd.pre
    have hts : ∀ w ∈ am_TG, w.before (av.map (am_v sA B)).toArray s = true := fun w h => hts0 w (List.mem_cons_of_mem _ h)
    have hown : s.vm.findClass (am_cn (am_in y).2.1) = some m.cls := by rw [← g4]; exact findClass_of_methodNamed Bd.named
    have hlocks := Bd.notSynchronized
    have hD : va_D (am_AA M.1.2.1 s.heap.size) (am_W cs M) := ⟨hD0.1, fun k q hk => Or.inl (am_W_mem hk)⟩
    have hW : am_Wd D cs (am_AA M.1.2.1 s.heap.size) s M s.heap [] := ⟨hP, hD, va_S.rf, hnx⟩
    have hdec : ∀ q ∈ (am_mt y).1, decode (am_b y) q.1 = .ok (q.2.1, q.2.2.1 - q.1) := fun q hq => of_decide_eq_true (List.all_eq_true.mp (am_ckD_all y (by omega)) q hq)
    have hF : am_Fx p s m (av.map (am_v sA B)).toArray c (am_b y) (am_mt y).2.1 (am_in y).2.1 (am_in y).2.2.1 (am_mt y).1 D cs sA aV B X (am_AA M.1.2.1 s.heap.size) := ⟨Bd.exec, Bd.bytes, hml, hown, hts, hCx, fun q h => Or.inr h, hdec, am_ckL_all y (by omega)⟩
    have hle : (lg_sl (av.map (am_v sA B))).length ≤ (am_mt y).2.1 := by rw [am_sl_len av hcat, hlen]; exact g9
    have hl0 := lv_entry (av.map (am_v sA B)) (n := (am_mt y).2.1) hle
    rw [lg_entry_eq]
    generalize (lg_sl (av.map (am_v sA B)) ++ List.replicate ((am_mt y).2.1 - (lg_sl (av.map (am_v sA B))).length) Slot.unset).toArray = ls at hl0 ⊢
    have hlo := am_lo_entry hcat hl0
    have hrt := am_w_rt y hy
    have hret := Bd.returns
    have hcalls : ∀ q ∈ (am_mt y).1, am_ckc q = true := List.all_eq_true.mp (am_all_range am_ckC_all (Nat.zero_le y) (by omega))
    rw [g5] at hrun
    refine am_body (R := am_rm (d + 1) r.2.2.1 r.2.2.2) (d := d) (hs := []) hF ⟨by show d + 11 ≤ d + 1 + 10; omega, by show 100 * (d + 11) ≤ 100 * (d + 1 + 10); omega⟩ ih ⟨Nat.le_refl _, Nat.le_refl _⟩ (fun q hq => Or.inl (hcalls q hq)) (fun _ _ _ _ q _ _ _ _ _ _ hsw hsuf _ => (am_swc_no (hcalls q (am_suf_mem hsuf)) hsw).elim) ?_ ?_ ?_ ?_ n _ _ _ _ _ _ hrun 0 s.heap [] ls (fun _ => am_w_pc y hy) ⟨[], rfl⟩ hW hlo
    · intro pc v H locs ls1 M1 kc ks hd h1 hfit hr1 hw
      subst hr1
      refine vx_ret ?_
      rcases hrt with ⟨e0, e1⟩ | ⟨e0, e1⟩ | ⟨e0, e1⟩
      · rw [e1] at hret
        exact W.iret Bd.exec Bd.bytes hret (fun t ht _ => ⟨⟨some (vI v), rfl, rfl, by rw [ht]; exact ⟨hw.1, hw.2.1, hw.2.2.2⟩⟩, hw.2.2.1.F ht⟩) (fun z hz => hw.2.2.1.2.2 z hz) hd
      · rw [e1] at hret
        rw [e0] at hfit
        exact W.zret Bd.exec Bd.bytes hret (am_nar_bool hfit).1 (fun t ht _ => ⟨⟨some (vI v), rfl, rfl, by rw [ht]; exact ⟨hw.1, hw.2.1, hw.2.2.2⟩⟩, hw.2.2.1.F ht⟩) (fun z hz => hw.2.2.1.2.2 z hz) hd
      · exact absurd e0 h1
    · intro pc H locs ls1 M1 kc ks hd h1 hr1 hw
      subst hr1
      refine vx_ret ?_
      have e1 : am_rt y = none := by
        rcases hrt with ⟨e0, e1⟩ | ⟨e0, e1⟩ | ⟨e0, e1⟩
        · rw [h1] at e0; cases e0
        · rw [h1] at e0; cases e0
        · exact e1
      rw [e1] at hret
      exact W.vret Bd.exec Bd.bytes hret (fun t ht _ => ⟨⟨none, rfl, rfl, by rw [ht]; exact ⟨hw.1, hw.2.1, hw.2.2.2⟩⟩, hw.2.2.1.F ht⟩) (fun z hz => hw.2.2.1.2.2 z hz) hd
    · intro pc j nx r1 r2 x k st M1 kc ks H locs ls1 hsuf _ hsum hr1 hw hsz
      subst hr1
      have hxc : ∀ t : State, s.vm.Alike t.vm → H.size ≤ t.heap.size → (∀ q : Nat, q < H.size → t.heap[q]? = H[q]?) → am_Xc D cs (am_AA M.1.2.1 s.heap.size) (((none, M1.1.2.1, M1.1.2.2), M1.2), .inr r2, kc + 1, ks + 6) (am_en r2) s t := by
        intro t _ h1 h2
        refine ⟨⟨r2, rfl, rfl, fun k q hk => (hw.1 k q hk).kept (h2 q.1 (hw.1 k q hk).lt), hw.2.1, fun n h => by cases h⟩, Nat.le_trans hw.2.2.1.1 h1, fun q hq hn => (h2 q (Nat.lt_of_lt_of_le hq hw.2.2.1.1)).trans (hw.2.2.1.2.1 q hq hn)⟩
      by_cases h3 : r2 = 3
      · exact am_rowThr3 hF hl hsuf h3 htab hlocks ⟨by show 10 ≤ d + 1 + 10; omega, by show 1000 ≤ 100 * (d + 1 + 10); omega⟩ ⟨Nat.le_refl _, Nat.le_refl _⟩ hxc (fun z hz => hw.2.2.1.2.2 z hz) (Nat.le_refl _) (Nat.le_refl _) hw.2.2.1 hsz hsum
      · exact am_rowThr hF hl hsuf h3 htab hlocks ⟨by show 10 ≤ d + 1 + 10; omega, by show 1000 ≤ 100 * (d + 1 + 10); omega⟩ ⟨Nat.le_refl _, Nat.le_refl _⟩ hxc (fun z hz => hw.2.2.1.2.2 z hz) (Nat.le_refl _) (Nat.le_refl _) hw.2.2.1 hsz hsum
    · intro Next hN k lv pc kc ks _ rest r' n' H1 locs1 q ce ls1 hv hret1 hw h1 h2 h3 _
      unfold am_ret at hret1
      rw [hv] at hret1
      have hret1 : ((r'.1, .inr n', kc + r'.2.2.1, ks + r'.2.2.2) : am_R) = r := hret1
      subst hret1
      exact vx_out (E := am_en n') (fun x hx => (htab x hx).elim) hlocks h1 h2 h3 (fun t ht _ => ⟨⟨n', rfl, rfl, by rw [ht]; exact ⟨hw.1, hw.2.1, hw.2.2.2⟩⟩, hw.2.2.1.F ht⟩) (fun z hz => hw.2.2.1.2.2 z hz) (Nat.le_refl _) (Nat.le_refl _)
