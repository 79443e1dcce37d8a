/-! WRAPPERS: methods that catch (printed by wip/whole/gen9118.py) -/
/-- their exception tables -/
def am_hh (y : Nat) : List (Nat × Nat × Nat × Nat) := [[(0, 8, 11, 13), (0, 8, 14, 15)], [(0, 8, 11, 13)], [(0, 10, 13, 24), (0, 10, 17, 13)], [(0, 10, 13, 24)], [(0, 12, 15, 24), (0, 12, 19, 13)], [(0, 10, 13, 24), (0, 10, 17, 36)], [(0, 10, 13, 24), (0, 10, 17, 36)], [(0, 10, 13, 24), (0, 10, 17, 36)], [(0, 10, 13, 24), (0, 10, 17, 36)], [(0, 10, 13, 24)], [(0, 12, 15, 24), (0, 12, 19, 36)], [(0, 10, 13, 24), (0, 10, 17, 57)], [(0, 12, 15, 24), (0, 12, 19, 13), (0, 12, 23, 57)], [(0, 10, 13, 24), (0, 10, 17, 57)], [(0, 17, 20, 24)], [(0, 9, 12, 13)], [(0, 12, 15, 24)], [(0, 12, 15, 24)], [(0, 12, 15, 24), (0, 12, 19, 13)], [(0, 10, 13, 24), (0, 10, 17, 13)], [(0, 10, 13, 24), (0, 10, 17, 13)], [(0, 9, 12, 13)], [(0, 10, 13, 24), (0, 10, 17, 13)], [(0, 12, 15, 24)], [(0, 12, 15, 24), (0, 12, 19, 13)], [(0, 10, 13, 24), (0, 10, 17, 13)], [(0, 8, 11, 13)], [(0, 8, 11, 13)], [(0, 9, 12, 24)], [(0, 9, 12, 24)], [(0, 10, 13, 24), (0, 10, 17, 13)], [(0, 12, 15, 24)], [(0, 10, 13, 36)]].getD (y - 319) []
def am_v1 (y : Nat) (x : Nat × Nat × Nat × Nat) (h : Nat × Nat × Nat) : Bool :=
  decide (h.1 < 5) && ((am_cpX 13).lookup x.2.2.2).any (fun q => q.1 == h.1) && decide (x.2.2.2 ≠ 0) && decide (h.2.2 < (am_mt y).2.1) &&
    ((decide (decode (am_b y) x.2.2.1 = .ok (.astore h.2.2, 2)) && decide (h.2.1 = x.2.2.1 + 2)) || (decide (∃ k : Fin 4, k.val = h.2.2 ∧ decode (am_b y) x.2.2.1 = .ok (.astore_n k, 1)) && decide (h.2.1 = x.2.2.1 + 1)))
def am_vz (y : Nat) : List (Nat × Nat × Nat × Nat) → List (Nat × Nat × Nat) → Bool
  | [], [] => true
  | x :: hh, h :: hs => am_v1 y x h && am_vz y hh hs
  | _, _ => false
def am_vk (y : Nat) : Bool := am_vz y (am_hh y) (am_mt y).2.2.2 && (am_mt y).1.all (fun q => !am_inv q.2.1 || (am_hh y).all (fun x => decide (x.1 ≤ q.1) && decide (q.1 < x.2.1))) && (am_mt y).1.all am_ckc && decide ((am_mt y).2.2.2 ≠ [])
theorem am_v_code : ∀ j, j < 33 → am_lk ((am_in (319 + j)).2.2.2.1) = some (.codeWith (am_y (319 + j)) (am_b (319 + j)) (am_mt (319 + j)).2.1 (am_rt (319 + j)) (am_hh (319 + j))) := by decide +kernel
theorem am_v_ini : ∀ j, j < 33 → am_lk ((am_in (319 + j)).2.2.2.2.2.2) = some (.initialized (am_y (319 + j)).cls) := by decide +kernel
theorem am_v_stat : ∀ j, j < 33 → am_lk ((am_in (319 + j)).2.2.2.2.1) = some (.static (am_y (319 + j))) := by decide +kernel
theorem am_v_desc : ∀ j, j < 33 → (am_y (319 + j)).cls ≠ "java/lang/invoke/MethodHandle" ∧ (am_y (319 + j)).cls ≠ "java/lang/invoke/VarHandle" ∧ (_root_.Jvm.plainName (am_y (319 + j)).cls) = true ∧ (am_y (319 + j)).cls = am_cn 13 ∧ (am_in (319 + j)).2.1 = 13 ∧ (am_mt (319 + j)).2.1 ≤ 30 ∧ (parseMethodDescriptor (am_y (319 + j)).desc).map (fun d => d.parameters.length) = some (am_in (319 + j)).1 ∧ (am_mt (319 + j)).2.2.1 = 0 ∧ (am_in (319 + j)).1 ≤ (am_mt (319 + j)).2.1 ∧ (am_in (319 + j)).2.2.1 = 0 ∧ am_rt (319 + j) = some .int ∧ (match (am_mt (319 + j)).1 with | [] => 0 | e :: _ => e.1) = 0 := by decide +kernel
theorem am_v_ok : ∀ j, j < 33 → am_vk (319 + j) = true := by decide +kernel
theorem am_vsplit {y n t lc : Nat} : ∀ (hh : List (Nat × Nat × Nat × Nat)) (hs : List (Nat × Nat × Nat)), am_vz y hh hs = true → hs.lookup n = some (t, lc) →
    ∃ pre x suf, hh = pre ++ x :: suf ∧ am_v1 y x (n, t, lc) = true ∧ ∀ z ∈ pre, ∃ h : Nat × Nat × Nat, h.1 ≠ n ∧ am_v1 y z h = true
  | [], [], _, h => by cases h
  | [], _ :: _, h, _ => by cases h
  | _ :: _, [], h, _ => by cases h
  | x :: hh, (E, t', l') :: hs, hv, h => by
    simp only [am_vz, Bool.and_eq_true] at hv
    by_cases e : n = E
    · subst e
      simp only [List.lookup, beq_self_eq_true, Option.some.injEq, Prod.mk.injEq] at h
      obtain ⟨rfl, rfl⟩ := h
      exact ⟨[], x, hh, rfl, hv.1, fun z hz => by cases hz⟩
    · have e2 : (n == E) = false := by simpa using e
      simp only [List.lookup, e2] at h
      obtain ⟨pre, z, suf, h1, h2, h3⟩ := am_vsplit hh hs hv.2 h
      refine ⟨x :: pre, z, suf, by rw [h1]; rfl, h2, fun w hw => ?_⟩
      rcases List.mem_cons.mp hw with rfl | hw
      · exact ⟨_, fun q => e q.symm, hv.1⟩
      · exact h3 w hw
/-- no exception is another -/
def am_NC (U : State) : Prop := ∀ a, a < 5 → ∀ b, b < 5 → a ≠ b → va_Nc (am_en a) (am_en b) U
theorem am_NC.moved {u U : State} (hvm : u.vm.Alike U.vm) (h : am_NC u) : am_NC U := fun a ha b hb hab => (h a ha b hb hab).moved hvm
def am_wsW (y : Nat) : List Cond := Cond.codeWith (am_y y) (am_b y) (am_mt y).2.1 (am_rt y) (am_hh y) :: am_TG
def am_PreW (D : va_G) (cs : am_CS) (sA aV : Nat → Nat) (B : Nat) (X : Nat × (Nat → Int32)) (M : am_M) (sz : Nat) (av : List AV) : Array Value → State → Prop := fun a U => am_Pre D cs sA aV B X M sz av a U ∧ am_NC U
theorem am_blindW (D : va_G) (cs : am_CS) (sA aV : Nat → Nat) (B : Nat) (X : Nat × (Nat → Int32)) (M : am_M) (sz : Nat) (av : List AV) : FrameBlind (am_PreW D cs sA aV B X M sz av) := by
  intro a U g mk q
  obtain ⟨⟨q0, q1, q2, q3, q4, q5⟩, q6⟩ := q
  exact ⟨⟨q0, q1, q2, q3, q4, am_Cx_same q5 rfl rfl⟩, q6⟩
def am_ConW (l : Launch) (D : va_G) (cs : am_CS) (sA aV : Nat → Nat) (B : Nat) (X : Nat × (Nat → Int32)) (d y : Nat) (args : List AV) (M : am_M) (r : am_R) : Prop :=
  ∀ sz, vx_Met l (am_y y) (am_wsW y) (am_rm d r.2.2.1 r.2.2.2) (am_PreW D cs sA aV B X M sz args) (am_Qc D cs sA B (am_AA M.1.2.1 sz) r) (am_Xc D cs (am_AA M.1.2.1 sz) r) r.2.2.1 r.2.2.2 (am_AA M.1.2.1 sz)
theorem am_cpX_link {args : Array Value} {s : State} (hts : ∀ w ∈ am_TG, w.before args s = true) {ct E : Nat} (h : ((am_cpX 13).lookup ct).any (fun q => q.1 == E) = true) : (Cond.classLink (am_cn 13) ct (am_en E)).before args s = true := by
  obtain ⟨⟨b1, b2⟩, h1, h2⟩ := am_lookup_any h
  simp only [beq_iff_eq] at h2
  subst h2
  exact hts _ (am_tk (am_cpX_ok 13 (by omega) _ h1) rfl)
theorem am_en_cast : ∀ E, E < 5 → am_lk ([3186, 4113, 4222, 5053, 5163].getD E 0) = some (.castable (am_en E) (am_en E)) := by decide +kernel
theorem am_castOk {args : Array Value} {s : State} (hts : ∀ w ∈ am_TG, w.before args s = true) {D : va_G} {cs : am_CS} {sA aV : Nat → Nat} {B : Nat} {X : Nat × (Nat → Int32)} {A : Nat → Prop} (hC : am_Cx D cs sA aV B X A s) {E : Nat} (h : E < 5) : (Cond.castable (am_en E) (am_en E)).before args s = true :=
  va_Nw.use rfl (hC.2.2.2.2.2.2.2.2.2.2 _ (am_lk_mem (am_en_cast E h)) rfl)
set_option maxHeartbeats 4000000 in
theorem am_soundW (l : Launch) (hl : l.stackTraces = false) (D : va_G) (cs : am_CS) (sA aV : Nat → Nat) (B : Nat) (X : Nat × (Nat → Int32)) (d j : Nat) (hj : j < 33) (av : List AV) (M : am_M) (r : am_R) (h : am_Call X am_SL am_mt (d + 1) (319 + j) av M r) (hlen : av.length = (am_in (319 + j)).1) : am_ConW l D cs sA aV B X (d + 1) (319 + j) av M r := by
  obtain ⟨hrecv, hcat, n, hrun⟩ := h
  have ih := am_sound l hl D cs sA aV B X d
  have hk1 := am_v_code j hj
  have hk2 := am_v_desc j hj
  have hk3 := am_v_ok j hj
  have hy352 : 319 + j < 353 := by omega
  generalize hyy : 319 + j = y at *
  obtain ⟨g1, g2, g3, g4, g4b, g5, g6, g7, g8, g9, g10, g11⟩ := hk2
  simp only [am_vk, Bool.and_eq_true, decide_eq_true_eq] at hk3
  obtain ⟨⟨⟨hz, hcov⟩, hcalls0⟩, hne⟩ := hk3
  intro sz
  refine vx_ofWH (cc := am_b y) (maxL := (am_mt y).2.1) (ret := am_rt y) (hh := am_hh y) g3 rfl ?_
  intro p e s m args below meth c s₁ Bd hml hv
  obtain ⟨⟨rfl, hsz, hP, hD0, hnx, hCx⟩, hNC⟩ := hv
  subst hsz
  have hts0 := atoms_spec (ws := am_wsW y) Bd.pre
  have hts : ∀ w ∈ am_TG, w.before (av.map (am_v sA B)).toArray s = true := fun w h => hts0 w (List.mem_cons_of_mem _ h)
  have htab := vx_table (x := am_y y) Bd (hts0 _ List.mem_cons_self)
  have hown : s.vm.findClass (am_cn (am_in y).2.1) = some m.cls := by rw [g4b, ← g4]; exact findClass_of_methodNamed Bd.named
  have hown13 : s.vm.findClass (am_cn 13) = some m.cls := by rw [← g4b]; exact hown
  have hlocks := Bd.notSynchronized
  have hD : va_D (am_AA M.1.2.1 s.heap.size) (am_W cs M) := ⟨hD0.1, fun k q hk => Or.inl (am_W_mem hk)⟩
  have hW : am_Wd D cs (am_AA M.1.2.1 s.heap.size) s M s.heap [] := ⟨hP, hD, va_S.rf, hnx⟩
  have hdec : ∀ q ∈ (am_mt y).1, decode (am_b y) q.1 = .ok (q.2.1, q.2.2.1 - q.1) := fun q hq => of_decide_eq_true (List.all_eq_true.mp (am_ckD_all y hy352) q hq)
  have hF : am_Fx p s m (av.map (am_v sA B)).toArray c (am_b y) (am_mt y).2.1 (am_in y).2.1 (am_in y).2.2.1 (am_mt y).1 D cs sA aV B X (am_AA M.1.2.1 s.heap.size) := ⟨Bd.exec, Bd.bytes, hml, hown, hts, hCx, fun q h => Or.inr h, hdec, am_ckL_all y hy352⟩
  have hle : (lg_sl (av.map (am_v sA B))).length ≤ (am_mt y).2.1 := by rw [am_sl_len av hcat, hlen]; exact g8
  have hl0 := lv_entry (av.map (am_v sA B)) (n := (am_mt y).2.1) hle
  rw [lg_entry_eq]
  generalize (lg_sl (av.map (am_v sA B)) ++ List.replicate ((am_mt y).2.1 - (lg_sl (av.map (am_v sA B))).length) Slot.unset).toArray = ls at hl0 ⊢
  have hlo := am_lo_entry hcat hl0
  have hret := Bd.returns
  have hcalls : ∀ q ∈ (am_mt y).1, am_ckc q = true := List.all_eq_true.mp hcalls0
  refine am_body (R := am_rm (d + 1) r.2.2.1 r.2.2.2) (d := d) (hs := (am_mt y).2.2.2) hF ⟨by show d + 11 ≤ d + 1 + 10; omega, by show 100 * (d + 11) ≤ 100 * (d + 1 + 10); omega⟩ ih ⟨Nat.le_refl _, Nat.le_refl _⟩ (fun q hq => Or.inl (hcalls q hq)) (fun _ _ _ _ q _ _ _ _ _ _ hsw hsuf _ => (am_swc_no (hcalls q (am_suf_mem hsuf)) hsw).elim) ?_ ?_ ?_ ?_ n _ _ _ _ _ _ hrun 0 s.heap [] ls (fun _ => g11) ⟨[], rfl⟩ hW hlo
  · intro pc v H locs ls1 M1 kc ks hd h1 hfit hr1 hw
    subst hr1
    refine vx_ret ?_
    rw [g10] at hret
    exact W.iret Bd.exec Bd.bytes hret (fun t ht _ => ⟨⟨some (vI v), rfl, rfl, by rw [ht]; exact ⟨hw.1, hw.2.1, hw.2.2.2⟩⟩, hw.2.2.1.F ht⟩) (fun z hz => hw.2.2.1.2.2 z hz) hd
  · intro pc H locs ls1 M1 kc ks hd h1 hr1 hw
    rw [g9] at h1
    cases h1
  · intro pc jj nx r1 r2 x k st M1 kc ks H locs ls1 hsuf hhs
    exact absurd hhs hne
  · intro Next hN k lv pc kc ks hinv rest r' n' H1 locs1 q ce ls1 hv hret1 hw h1 h2 h3 hlo1
    obtain ⟨q0, hq0, hpc0, hi0⟩ := hinv
    unfold am_ret at hret1
    rw [hv] at hret1
    dsimp only at hret1
    split at hret1
    · rename_i e0
      exact absurd e0 hne
    · split at hret1
      · rename_i hh0 hlk
        obtain ⟨t, lc⟩ := hh0
        obtain ⟨pre, x, suf, k1, k2, k3⟩ := am_vsplit _ _ hz hlk
        have hcv : ∀ z ∈ am_hh y, covers ⟨z.1, z.2.1, z.2.2.1, z.2.2.2⟩ pc = true := by
          intro z hz1
          have := List.all_eq_true.mp hcov q0 hq0
          rw [hi0, hpc0] at this
          simp only [Bool.not_true, Bool.false_or] at this
          exact List.all_eq_true.mp this z hz1
        have n5 : n' < 5 := by
          simp only [am_v1, Bool.and_eq_true, decide_eq_true_eq] at k2
          exact k2.1.1.1.1
        have hx := hcv x (by rw [k1]; simp)
        simp only [am_v1, Bool.and_eq_true, Bool.or_eq_true, decide_eq_true_eq] at k2
        obtain ⟨⟨⟨⟨-, kl⟩, kz⟩, kmx⟩, kd⟩ := k2
        refine vx_catch (own := am_cn 13) (name := am_en n') (E := am_en n') hown13 (pre.map fun q => ⟨q.1, q.2.1, q.2.2.1, q.2.2.2⟩) ⟨x.1, x.2.1, x.2.2.1, x.2.2.2⟩ (suf.map fun q => ⟨q.1, q.2.1, q.2.2.1, q.2.2.2⟩) (by rw [htab, k1]; simp [tableOf]) ?_ hx kz (am_cpX_link hts kl) (am_castOk hts hCx n5) h1 h2 h3 ?_
        · intro z hz1
          obtain ⟨w, hw1, rfl⟩ := List.mem_map.mp hz1
          obtain ⟨hb, hb1, hb2⟩ := k3 w hw1
          simp only [am_v1, Bool.and_eq_true, decide_eq_true_eq] at hb2
          obtain ⟨⟨⟨⟨b5, bl⟩, bz⟩, -⟩, -⟩ := hb2
          exact Or.inr ⟨bz, am_en hb.1, am_cpX_link hts bl, hNC n' n5 hb.1 b5 (Ne.symm hb1)⟩
        · have hs1 := (am_seek_suf t (am_mt y).1)
          rcases kd with ⟨kd, kt⟩ | ⟨⟨kf, kf1, kf2⟩, kt⟩
          · refine lv_astore Bd.exec Bd.bytes kd (am_lo_has hlo1) kmx rfl (fun ls2 hl2 => ?_)
            exact hN _ _ _ _ _ _ hret1 _ _ _ _ (fun hk => (hs1.2 hk).trans kt) hs1.1 hw (am_lo_unset hlo1 hl2)
          · refine lv_astore_n Bd.exec Bd.bytes kf2 kf1 (am_lo_has hlo1) kmx rfl (fun ls2 hl2 => ?_)
            exact hN _ _ _ _ _ _ hret1 _ _ _ _ (fun hk => (hs1.2 hk).trans kt) hs1.1 hw (am_lo_unset hlo1 hl2)
      · exact hret1.elim
theorem am_cpN_small : ∀ o, o < 17 → ∀ q ∈ am_cpN o, q.2.1 < 319 := by decide +kernel
section AMSW
variable {p : Program} {l : Launch} {e : Env} {R : Room} {s : State} {m : MethodId} {args : Array Value} {below : List Frame} {meth : Method} {c : Code} {Q : State → Prop} {cc : ByteArray} {nL o rt d : Nat} {full : List am_CE} {D : va_G} {cs : am_CS} {sA aV : Nat → Nat} {B : Nat} {X : Nat × (Nat → Int32)} {A : Nat → Prop}
variable {hs : List (Nat × Nat × Nat)} {Next : am_K} {End : am_R → Prop} {k : List am_CE} {lv : List (Option AV)} {st : List AV} {M : am_M} {kc ks : Nat}
/-- a call of a wrapper -/
theorem am_stepSW (hl : l.stackTraces = false) (hF : am_Fx p s m args c cc nL o rt full D cs sA aV B X A) (hNC : am_NC s) (hR : d + 12 ≤ R.frames ∧ 100 * (d + 12) ≤ R.locals)
    (hN : ∀ k' lv' st' M' kc' ks', Next k' lv' st' M' kc' ks' → am_G p l e R s m args below meth c Q nL full D cs sA B A k' lv' st' M' kc' ks') (hNc : ∀ k' lv' st' M' kc' ks', Next k' lv' st' M' kc' ks' → kc' ≤ R.cells ∧ ks' ≤ R.slots) (hEc : ∀ r', End r' → r'.2.2.1 ≤ R.cells ∧ r'.2.2.2 ≤ R.slots)
    {pc nx r1 j jx : Nat} {x : Int32} (hlt : j < 33) (hsuf : am_suf full ((pc, .invokestatic jx, nx, r1 + 1, 319 + j, x) :: k)) (hst : am_stp X am_SL (am_Call X am_SL am_mt (d + 1)) full hs k (pc, .invokestatic jx, nx, r1 + 1, 319 + j, x) lv st M kc ks Next End) (kx : am_KX p l e R s m args below meth c Q nL full D cs sA B A hs Next End k lv pc kc ks) :
    am_G p l e R s m args below meth c Q nL full D cs sA B A ((pc, .invokestatic jx, nx, r1 + 1, 319 + j, x) :: k) lv st M kc ks := by
  intro pc0 H locs ls hpc hsuf0 hW hlo
  obtain ⟨hx, hb, hml, hown, hts, hC, hA, hdec, hok⟩ := hF
  have hd0 := hdec _ (am_suf_mem hsuf)
  obtain ⟨hokB, hokN⟩ := am_okL_suf hsuf hok
  have hpc1 : pc = pc0 := hpc (by simp)
  subst hpc1
  simp only [am_okB, Bool.and_eq_true, Bool.or_eq_true, beq_iff_eq] at hokB
  obtain ⟨hnx, ⟨hcp, hna⟩, hcl⟩ := hokB
  obtain ⟨hle, hsum, r, hcall, hret⟩ : am_call (am_Call X am_SL am_mt (d + 1)) full hs (r1 + 1) (319 + j) k lv st M kc ks Next End := hst
  have hlen : ((st.take (r1 + 1)).reverse).length = (am_in (319 + j)).1 := by rw [List.length_reverse, List.length_take, hna]; omega
  have hcon := am_soundW l hl D cs sA aV B X d j hlt _ M r hcall hlen
  have hk1 := am_v_code j hlt
  have hki := am_v_ini j hlt
  have hkst := am_v_stat j hlt
  obtain ⟨g1, g2, g3, g4, g4b, g5, g6, g7, g8, g9, g10, g11⟩ := am_v_desc j hlt
  have hlm : Cond.methodLink (am_cn o) jx (am_y (319 + j)) ∈ am_TG := by
    rcases hcp with hcp | hcp
    · obtain ⟨⟨b1, b2⟩, hm1, hm2⟩ := am_lookup_any hcp
      simp only [beq_iff_eq] at hm2
      subst hm2
      exact am_tk (am_cpM_ok o (am_cpM_lt hm1) _ hm1) rfl
    · obtain ⟨⟨b1, b2⟩, hm1, hm2⟩ := am_lookup_any hcp
      simp only [beq_iff_eq] at hm2
      have ho := am_cpN_lt hm1
      have := am_cpN_small o ho _ hm1
      dsimp only at this
      omega
  have hcw : vx_CSW R s args (am_cn o) jx (am_y (319 + j)) (am_b (319 + j)) (am_mt (319 + j)).2.1 (am_rt (319 + j)) (am_hh (319 + j)) (am_wsW (319 + j)) (am_rm (d + 1) r.2.2.1 r.2.2.2) r.2.2.1 r.2.2.2 (am_in (319 + j)).1 := by
    refine vx_cwSW (ws' := am_TG) (am_in (319 + j)).1 hts (am_goodIn ?_) rfl rfl rfl ⟨g1, g2, g6⟩ ⟨?_, ?_⟩
    · intro w hw
      unfold va_wsS at hw
      rcases List.mem_append.mp hw with hw | hw
      · simp only [List.mem_cons, List.not_mem_nil, or_false] at hw
        rcases hw with rfl | rfl | rfl
        · exact hlm
        · exact am_tk hkst rfl
        · exact am_tk hki rfl
      · exact am_mem_cons (am_tk hk1 rfl) w hw
    · show d + 1 + 10 + 1 ≤ R.frames
      omega
    · show 8 + ((am_mt (319 + j)).2.1 + 11) + 100 * (d + 1 + 10) ≤ R.locals
      omega
  have hp : PreS s H (am_PreW D cs sA aV B X M H.size ((st.take (r1 + 1)).reverse)) (((st.take (r1 + 1)).reverse).map (am_v sA B)) := ⟨am_blindW D cs sA aV B X M H.size _, fun U hU hW1 => ⟨am_pre hC hA hW hU hW1 _, hNC.moved hW1.alike⟩⟩
  have hrun := vx_runSX (R := R) (e := e) (below := below) (meth := meth) (p := p) (l := l) (cells := kc) (slots := ks) (rest := (st.drop (r1 + 1)).map (am_v sA B)) (g := F0 m pc ls ((((st.take (r1 + 1)).reverse).map (am_v sA B)).reverse ++ (st.drop (r1 + 1)).map (am_v sA B))) (locs := locs) ⟨hx, hb, hml, hown, hts⟩ (hcon H.size) hcw hp rfl (by rw [List.length_map, hlen]) hlo.1 rfl (by rw [am_sum]; show 2 * 0 + _ ≤ 8; omega) (am_dl hd0 hnx) (am_ret_cnt hNc hEc hret)
  have hst3 : st.map (am_v sA B) = (((st.take (r1 + 1)).reverse).map (am_v sA B)).reverse ++ (st.drop (r1 + 1)).map (am_v sA B) := by
    conv => lhs; rw [am_stack (st := st) (na := r1 + 1) rfl]
    simp
  rw [hst3]
  refine am_behind hA hW hrun (fun v H1 locs1 hv hw => ?_) (fun n H1 locs1 q ce hv hw h1 h2 h3 => ?_)
  · have hnext := am_ret_inl hv hret
    rw [am_map_opt]
    exact hN _ _ _ _ _ _ hnext _ _ _ _ (fun hk => (am_next hokN hk).trans hnx) (am_suf_tail hsuf) hw hlo
  · exact kx _ r n H1 locs1 q ce ls hv hret hw h1 h2 h3 hlo
end AMSW
