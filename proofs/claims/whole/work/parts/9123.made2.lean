/-! CONSTRUCTORS: their contracts -/
theorem kn_row_mono {full k : List am_CE} {q : am_CE} {lv : List (Option AV)} {st : List AV} {S : kn_S} {kc ks : Nat} {r : kn_R} (h : kn_row full k q lv st S kc ks = some r) : kc ≤ r.2.2.2.2.1 ∧ ks ≤ r.2.2.2.2.2 := by
  obtain ⟨pc, i, nx, r1, r2, x⟩ := q
  cases i <;> simp only [kn_row] at h
  all_goals (repeat' split at h)
  all_goals (first | (cases h; done) | (cases h; exact ⟨by dsimp only; omega, by dsimp only; omega⟩))
theorem kn_run_mono : ∀ (f dep o : Nat) (k : List am_CE) (lv : List (Option AV)) (st : List AV) (S : kn_S) (kc ks : Nat) (r : kn_S × Nat × Nat), kn_run f dep o k lv st S kc ks = some r → kc ≤ r.2.1 ∧ ks ≤ r.2.2 := by
  intro f
  induction f with
  | zero => intro dep o k lv st S kc ks r h; cases h
  | succ f ih =>
    intro dep o k lv st S kc ks r h
    cases k with
    | nil => cases h
    | cons q k =>
      obtain ⟨pc, i, nx, r1, r2, x⟩ := q
      by_cases hr : ∃ j, i = .invokespecial j
      · obtain ⟨j, rfl⟩ := hr
        simp only [kn_run] at h
        split at h
        · split at h
          · split at h
            · exact ih _ _ _ _ _ _ _ _ _ h
            · cases h
          · cases h
        · split at h
          · split at h
            · split at h
              · have := ih _ _ _ _ _ _ _ _ _ h
                omega
              · cases h
            · cases h
          · cases h
      · by_cases hr2 : i = .return_
        · subst hr2
          simp only [kn_run] at h
          split at h
          · cases h
            exact ⟨Nat.le_refl _, Nat.le_refl _⟩
          · cases h
        · have e : kn_run (f + 1) dep o ((pc, i, nx, r1, r2, x) :: k) lv st S kc ks = (match kn_row (kn_mt o).1 k (pc, i, nx, r1, r2, x) lv st S kc ks with
            | some (k', lv', st', S', kc', ks') => kn_run f dep o k' lv' st' S' kc' ks'
            | none => none) := by
            cases i <;> first | rfl | exact absurd ⟨_, rfl⟩ hr | exact absurd rfl hr2
          rw [e] at h
          split at h
          · rename_i k' lv' st' S' kc' ks' hrow
            have h1 := kn_row_mono hrow
            have h2 := ih _ _ _ _ _ _ _ _ _ h
            dsimp only at h1
            omega
          · cases h
theorem kn_rlv {b nL : Nat} {av : List AV} : am_rl (fun q => b + q) (am_lv nL av) = am_lv nL (av.map (am_rv (fun q => b + q))) := by
  unfold am_rl am_lv
  simp [List.map_append, List.map_map, List.map_replicate, Function.comp_def]
theorem kn_metOf {l : Launch} {D : va_G} {cs : am_CS} {dep o : Nat} {av : List AV} {S S' : kn_S} {kc ks : Nat} (ho : o < 13) (hcat : ∀ v ∈ av, am_cat v = 1) (hlen : av.length = (kn_mt o).2.2)
    (hbody : ∀ (p : Program) (e : Env) (s : State) (m : MethodId) (args : Array Value) (below : List Frame) (meth : Method) (c : Code) (b : Nat), kn_Fx p s m args meth c o b D cs → meth.sig.returnType = none → meth.locks = false → kn_G p l e (kn_rm dep kc ks) s m args below meth c (MQ below (kn_Qc D cs b S') args s kc ks (kn_A0 b)) o b D cs ((kn_mt o).1, am_lv (kn_mt o).2.1 av, [], S, 0, 0)) : kn_Con l D cs dep o av S S' kc ks := by
  intro b
  obtain ⟨d1, d2, d3, d4, d5, d6, d7, d8, d9, d10⟩ := kn_tdesc o ho
  refine Met.ofW (cc := kn_b o) (maxL := (kn_mt o).2.1) (ret := none) d3 rfl ?_
  intro p e s m args below meth c s₁ Bd hml hv
  obtain ⟨rfl, hsz, hP, hD, hK, hN⟩ := hv
  have hts0 := atoms_spec (ws := kn_ws o) Bd.pre
  have hts : ∀ w ∈ am_TG, w.before (av.map (kn_v b)).toArray s = true := fun w h => hts0 w (List.mem_cons_of_mem _ h)
  have hown : s.vm.findClass (am_cn o) = some m.cls := by rw [← d4]; exact findClass_of_methodNamed Bd.named
  have hname : meth.name = "<init>" := by rw [← d5]; exact (name_of_methodNamed Bd.named Bd.method).1
  have hF : kn_Fx p s m (av.map (kn_v b)).toArray meth c o b D cs := ⟨Bd.exec, Bd.bytes, hml, hown, hts, hK, hN, hname, by rw [hsz]; omega, ho⟩
  have hW : am_Wd D cs (kn_A0 b) s (kn_M b S) s.heap [] := ⟨hP, hD, va_S.rf, fun n hn => by cases hn; exact hsz⟩
  have e0 : av.map (kn_v b) = (av.map (am_rv (fun q => b + q))).map (am_v (fun _ => 0) 0) := by rw [List.map_map]; rfl
  have hcat2 : ∀ v ∈ av.map (am_rv (fun q => b + q)), am_cat v = 1 := by
    intro v hv
    obtain ⟨w, hw, rfl⟩ := List.mem_map.mp hv
    rw [am_rv_cat]
    exact hcat w hw
  have hle : (lg_sl ((av.map (am_rv (fun q => b + q))).map (am_v (fun _ => 0) 0))).length ≤ (kn_mt o).2.1 := by rw [am_sl_len _ hcat2, List.length_map, hlen]; exact d7
  have hl0 := lv_entry ((av.map (am_rv (fun q => b + q))).map (am_v (fun _ => 0) 0)) (n := (kn_mt o).2.1) hle
  have hb1 := hbody p e s m (av.map (kn_v b)).toArray below meth c b hF Bd.returns Bd.notSynchronized
  rw [lg_entry_eq]
  rw [e0] at hb1 ⊢
  generalize (lg_sl ((av.map (am_rv (fun q => b + q))).map (am_v (fun _ => 0) 0)) ++ List.replicate ((kn_mt o).2.1 - (lg_sl ((av.map (am_rv (fun q => b + q))).map (am_v (fun _ => 0) 0))).length) Slot.unset).toArray = ls at hl0 ⊢
  have hlo := am_lo_entry hcat2 hl0
  rw [← kn_rlv] at hlo
  exact hb1 0 s.heap [] ls (fun _ => d10) ⟨[], rfl⟩ hW hlo
theorem kn_rev {st : List AV} {na : Nat} {a0 : Nat} {as : List AV} (h : (st.take na).reverse = vR a0 :: as) : st = as.reverse ++ vR a0 :: st.drop na := by
  have h2 : st.take na = as.reverse ++ [vR a0] := by
    rw [← List.reverse_reverse (st.take na), h, List.reverse_cons]
  calc st = st.take na ++ st.drop na := (List.take_append_drop na st).symm
    _ = _ := by rw [h2]; simp
set_option maxHeartbeats 8000000 in
theorem kn_body (l : Launch) (D : va_G) (cs : am_CS) : ∀ (f dep o : Nat) (k : List am_CE) (lv : List (Option AV)) (st : List AV) (S : kn_S) (kc ks : Nat) (S' : kn_S) (kc' ks' : Nat), kn_run f dep o k lv st S kc ks = some (S', kc', ks') →
    ∀ (p : Program) (e : Env) (s : State) (m : MethodId) (args : Array Value) (below : List Frame) (meth : Method) (c : Code) (b : Nat), kn_Fx p s m args meth c o b D cs → meth.sig.returnType = none → meth.locks = false →
    kn_G p l e (kn_rm dep kc' ks') s m args below meth c (MQ below (kn_Qc D cs b S') args s kc' ks' (kn_A0 b)) o b D cs (k, lv, st, S, kc, ks) := by
  intro f
  induction f with
  | zero => intro dep o k lv st S kc ks S' kc' ks' h; cases h
  | succ f ih =>
    intro dep o k lv st S kc ks S' kc' ks' h p e s m args below meth c b hF hret hlocks
    cases k with
    | nil => cases h
    | cons q k =>
      obtain ⟨pc, i, nx, r1, r2, x⟩ := q
      by_cases hr : ∃ j, i = .invokespecial j
      · obtain ⟨j, rfl⟩ := hr
        intro pc0 H locs ls hpc hsuf0 hW0 hlo0
        obtain ⟨hx, hb, hml, hown, hts, hK, hNW, hin2, hbs, ho⟩ := id hF
        have hsuf : am_suf (kn_mt o).1 ((pc, .invokespecial j, nx, r1, r2, x) :: k) := hsuf0
        have hd0 := kn_tdec o ho _ (am_suf_mem hsuf)
        obtain ⟨hokB, hokN⟩ := kn_okL_suf hsuf (kn_tok o ho)
        have hpc1 : pc = pc0 := hpc (by simp)
        subst hpc1
        have hA : ∀ q, s.heap.size ≤ q → kn_A0 b q := fun q h => Nat.le_trans hbs h
        have hs1 := am_suf_tail hsuf
        dsimp only at hokN hd0
        have hlo : am_lo (fun _ => 0) 0 ls (kn_mt o).2.1 (am_rl (fun q => b + q) lv) := hlo0
        have hW : am_Wd D cs (kn_A0 b) s (kn_M b S) H locs := hW0
        clear hsuf0 hlo0 hW0
        have hsz : H.size = b + S.1 := hW.2.2.2 _ rfl
        simp only [kn_okB, Bool.and_eq_true, beq_iff_eq] at hokB
        obtain ⟨hnx, hokB⟩ := hokB
        simp only [kn_run] at h
        split at h
        · split at h
          · rename_i a0 s1
            split at h
            · rename_i hsum
              have hsum := of_decide_eq_true hsum
              obtain ⟨pl, hpl⟩ := kn_any hokB
              refine W.objInit hx hb hown (hts _ (am_tk (kn_tco o ho _ hpl) rfl)) (hts _ (am_tk kn_tob.2 rfl)) (hts _ (am_tk kn_tob.1 rfl)) rfl (by rw [hml]; exact hlo.1) rfl (am_dl hd0 hnx) (by show 1 ≤ dep + 1; omega) ?_ ?_
              · have e9 : ((s1.map (kn_v b)).map fun v => v.category).sum = (s1.map am_cat).sum := by
                  rw [List.map_map]
                  congr 1
                  apply List.map_congr_left
                  intro v _
                  show (am_v _ _ (am_rv _ v)).category = am_cat v
                  rw [am_v_cat2, am_rv_cat]
                show 2 * 0 + ((s1.map (kn_v b)).map fun v => v.category).sum + 12 ≤ 40 * (dep + 1)
                rw [e9]
                omega
              · exact ih _ _ _ _ _ _ _ _ _ _ _ h p e s m args below meth c b hF hret hlocks (pc + 3) H locs ls (fun hk => (hokN hk).trans hnx) hs1 hW hlo
            · cases h
          · cases h
        · rename_i na
          split at h
          · rename_i dep' hle hsum hcat
            have hle := of_decide_eq_true hle
            have hsum := of_decide_eq_true hsum
            split at h
            · rename_i a0 as heq
              split at h
              · rename_i S1 c1 s1 hrun
                simp only [Bool.and_eq_true, decide_eq_true_eq, Bool.or_eq_true, beq_iff_eq] at hokB
                obtain ⟨⟨h13, hna⟩, hlk⟩ := hokB
                have hmono := kn_run_mono _ _ _ _ _ _ _ _ _ _ h
                dsimp only at hmono
                have hcat2 : ∀ v ∈ (vR a0 :: as : List AV), am_cat v = 1 := by
                  intro v hv
                  rw [← heq] at hv
                  exact beq_iff_eq.mp (List.all_eq_true.mp hcat v hv)
                have hlen : (vR a0 :: as : List AV).length = (kn_mt r2).2.2 := by
                  rw [← heq, List.length_reverse, List.length_take, ← hna]
                  omega
                rw [heq] at hrun
                have hcon : kn_Con l D cs dep' r2 (vR a0 :: as) S S1 c1 s1 := kn_metOf h13 hcat2 hlen (fun p e s m args below meth c b hF hr1 hl1 => ih _ _ _ _ _ _ _ _ _ _ _ hrun p e s m args below meth c b hF hr1 hl1)
                obtain ⟨d1, d2, d3, d4, d5, d6, d7, d8, d9, d10⟩ := kn_tdesc r2 h13
                obtain ⟨t1, t2, t3, t4⟩ := kn_tk r2 h13
                have hG : GoodIn am_TG (kn_ws r2) := am_goodIn (am_mem_cons (am_tk t1 rfl))
                have hini : (Cond.initialized (kn_y r2).cls).before args s = true := by rw [d4]; exact hts _ (am_tk t3 rfl)
                have hinst : (Cond.instanceMethod (kn_y r2)).before args s = true := hts _ (am_tk t2 rfl)
                have hasl : as.length = (kn_mt r2).2.2 - 1 := by
                  rw [← hlen]
                  simp
                have hrm : (kn_rm dep' c1 s1).frames + 1 ≤ (kn_rm (dep' + 1) kc' ks').frames ∧ 8 + ((kn_mt r2).2.1 + 11) + (kn_rm dep' c1 s1).locals ≤ (kn_rm (dep' + 1) kc' ks').locals := by
                  refine ⟨by show dep' + 1 + 1 ≤ dep' + 1 + 1; omega, ?_⟩
                  show 8 + ((kn_mt r2).2.1 + 11) + 40 * (dep' + 1) ≤ 40 * (dep' + 1 + 1)
                  omega
                have hp : PreS s H (kn_Pre D cs b S (vR a0 :: as)) (.ref (b + a0) :: as.map (kn_v b)) := ⟨kn_blind D cs b S _, fun U hU hW1 => ⟨rfl, by rw [hU]; exact hsz, by rw [hU]; exact hW.1, hW.2.1, va_K.moved hW1.alike hK, hNW.next hW1⟩⟩
                have hst : st.map (kn_v b) = (as.map (kn_v b)).reverse ++ .ref (b + a0) :: (st.drop (na + 1)).map (kn_v b) := by
                  conv => lhs; rw [kn_rev heq]
                  simp
                  rfl
                have e9 : (((st.drop (na + 1)).map (kn_v b)).map fun v => v.category).sum = ((st.drop (na + 1)).map am_cat).sum := by
                  rw [List.map_map]
                  congr 1
                  apply List.map_congr_left
                  intro v _
                  show (am_v _ _ (am_rv _ v)).category = am_cat v
                  rw [am_v_cat2, am_rv_cat]
                have hrest : 2 * (F0 m pc ls (st.map (kn_v b))).monitorRoom + (((st.drop (na + 1)).map (kn_v b)).map fun v => v.category).sum ≤ 8 := by
                  rw [e9]
                  show 2 * 0 + _ ≤ 8
                  omega
                have hroom : kc + c1 ≤ (kn_rm (dep' + 1) kc' ks').cells ∧ ks + s1 ≤ (kn_rm (dep' + 1) kc' ks').slots := hmono
                show W p l e (kn_rm (dep' + 1) kc' ks') s m args below meth c H locs kc ks _ (F0 m pc ls (st.map (kn_v b)))
                have hr : va_Run p l e (kn_rm (dep' + 1) kc' ks') s m args below meth c H locs kc ks c1 s1 (F0 m pc ls (st.map (kn_v b))) ((st.drop (na + 1)).map (kn_v b)) (kn_Qc D cs b S1 (Value.ref (b + a0) :: as.map (kn_v b)).toArray) (kn_A0 b) := by
                  rcases hlk with hlk | hlk
                  · obtain ⟨⟨b1, b2⟩, hm1, hm2⟩ := am_lookup_any hlk
                    simp only [beq_iff_eq] at hm2
                    subst hm2
                    exact va_runI (As := as.map (kn_v b)) ⟨hx, hb, hml, hown, hts⟩ (hcon b) (cwI as.length hts hG rfl rfl rfl hini (hts _ (am_tk (kn_tci o ho _ hm1) rfl)) hinst d5 ⟨d1, d2, by rw [d8, hasl]⟩ hrm) hp rfl (by rw [List.length_map]) hlo.1 hst hrest (am_dl hd0 hnx) hroom
                  · obtain ⟨⟨b1, b2⟩, hm1, hm2⟩ := am_lookup_any hlk
                    simp only [beq_iff_eq] at hm2
                    subst hm2
                    exact va_runIN (As := as.map (kn_v b)) ⟨hx, hb, hml, hown, hts⟩ (hcon b) ⟨va_cnB as.length hts hG rfl rfl rfl (hNW.1 _ (am_lk_mem (kn_tcn o ho _ hm1)) rfl) hini ⟨d1, d2, by rw [d8, hasl]⟩ hrm, d5, hinst⟩ hp rfl (by rw [List.length_map]) hlo.1 hst hrest (am_dl hd0 hnx) hroom
                refine va_callv hr hW.2.2.1 (fun _ _ h => h) (fun _ h => h) (fun u t H1 locs1 ht hal _ hB hz hold hS1 => ?_)
                obtain ⟨b1, b2, b3⟩ := hB
                rw [ht] at b1 b2
                exact ih _ _ _ _ _ _ _ _ _ _ _ h p e s m args below meth c b hF hret hlocks (pc + 3) H1 locs1 ls (fun hk => (hokN hk).trans hnx) hs1 ⟨b2, b3, hS1, fun n hn => by cases hn; exact b1⟩ hlo
              · cases h
            · cases h
          · cases h
      · by_cases hr2 : i = .return_
        · subst hr2
          simp only [kn_run] at h
          split at h
          · cases h
            intro pc0 H locs ls hpc hsuf0 hW0 hlo0
            obtain ⟨hx, hb, hml, hown, hts, hK, hNW, hin2, hbs, ho⟩ := id hF
            have hsuf : am_suf (kn_mt o).1 ((pc, .return_, nx, r1, r2, x) :: k) := hsuf0
            have hd0 := kn_tdec o ho _ (am_suf_mem hsuf)
            obtain ⟨hokB, hokN⟩ := kn_okL_suf hsuf (kn_tok o ho)
            have hpc1 : pc = pc0 := hpc (by simp)
            subst hpc1
            have hnx : nx = pc + 1 := by simpa [kn_okB] using hokB
            have hW : am_Wd D cs (kn_A0 b) s (kn_M b S) H locs := hW0
            exact W.vret hx hb hret (fun t ht _ => ⟨⟨(), rfl, trivial, by rw [ht]; exact hW.2.2.2 _ rfl, by rw [ht]; exact hW.1, hW.2.1⟩, hW.2.2.1.F ht⟩) (fun z hz => hW.2.2.1.2.2 z hz) (am_dl hd0 hnx)
          · cases h
        · have e1 : kn_run (f + 1) dep o ((pc, i, nx, r1, r2, x) :: k) lv st S kc ks = (match kn_row (kn_mt o).1 k (pc, i, nx, r1, r2, x) lv st S kc ks with
            | some (k', lv', st', S', kc', ks') => kn_run f dep o k' lv' st' S' kc' ks'
            | none => none) := by
            cases i <;> first | rfl | exact absurd ⟨_, rfl⟩ hr | exact absurd rfl hr2
          rw [e1] at h
          split at h
          · rename_i k' lv' st' S2 kc2 ks2 hrow
            have h2 := kn_run_mono _ _ _ _ _ _ _ _ _ _ h
            exact kn_step hF hrow h2 (ih _ _ _ _ _ _ _ _ _ _ _ h p e s m args below meth c b hF hret hlocks)
          · cases h
theorem kn_con (l : Launch) (D : va_G) (cs : am_CS) {f dep o : Nat} {av : List AV} {S S' : kn_S} {kc ks : Nat} (ho : o < 13) (hcat : ∀ v ∈ av, am_cat v = 1) (hlen : av.length = (kn_mt o).2.2) (h : kn_run f dep o (kn_mt o).1 (am_lv (kn_mt o).2.1 av) [] S 0 0 = some (S', kc, ks)) : kn_Con l D cs dep o av S S' kc ks :=
  kn_metOf ho hcat hlen (fun p e s m args below meth c b hF hr1 hl1 => kn_body l D cs f dep o _ _ _ _ _ _ _ _ _ h p e s m args below meth c b hF hr1 hl1)
