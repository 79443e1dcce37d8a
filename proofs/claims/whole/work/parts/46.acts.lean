/-! THE CLASS: image, back, undo, remember (made by wip/whole/gen46.py) -/
theorem c_image {X : Nat × (Nat → Int32)} {d : Nat} {p : Nat → Nat} {sg : Mg} : gF X (d + 6) 133 [vR 0] p sg (fun r => ∃ s, ((∀ c, c ≠ 0 → c ≤ 401 ∨ 470 ≤ c → s c = sg c) ∧ (∀ k, k ≠ 12 → s 0 k = sg 0 k) ∧ s 0 12 = 1 ∧ ∀ S, sn S 14 ≤ 100 → cwW 200 sg S → cwW 400 s S) ∧ r = gR0 p s) := by
  refine g_in (cd := k_133) (nL := 1) (rc := 12) rfl (g_A (a := 0) (kd := 0) (n := 11) rfl (by decide)) (g_c1 rfl) ?_
  show gW X (d + 5) k_133 0 [some (vR 0)] [] p sg _
  refine g_pure 4 (i' := 4) (lv' := [some (vR 0)]) (st' := [vR 200, vR 400]) rfl ?_
  refine g_cV0E rfl (args := [vR 400, vR 200]) (rest := []) rfl rfl rfl (s_106 (d := d) (Or.inr (Or.inr rfl)) (Or.inl rfl) (by decide)) (fun s1 h1 => ?_)
  refine g_pure 2 (i' := 7) (lv' := [some (vR 0)]) (st' := [vI 1, vR 0]) rfl ?_
  refine g_putB rfl (g_A (a := 0) (kd := 0) (n := 11) rfl (by decide)) g_nar1 ?_
  refine g_vret rfl ?_
  refine ⟨_, ⟨fun c h0 hc => ?_, fun k hk => ?_, mu_self, fun S h14 hS => ?_⟩, rfl⟩
  · rw [mu_ne h0]; exact h1.1 c hc
  · rw [mu_idx hk]; exact congrFun (h1.1 0 (by decide)) k
  · obtain ⟨g1, g2, g3⟩ := h1.2 S h14 hS
    exact ⟨g1.out (by decide), g2.out (by decide), g3.eqx (m := []) (fun c c1 c2 => mu_ne (by omega))⟩

theorem c_back0 {X : Nat × (Nat → Int32)} {d : Nat} {p : Nat → Nat} {sg : Mg} (h : sg 0 12 = 0) : gF X (d + 6) 134 [vR 0] p sg (fun r => r = gRv p sg 0) := by
  refine g_in (cd := k_134) (nL := 1) (rc := 12) rfl (g_A (a := 0) (kd := 0) (n := 11) rfl (by decide)) (g_c1 rfl) ?_
  show gW X (d + 5) k_134 0 [some (vR 0)] [] p sg _
  refine g_pure 1 (i' := 1) (lv' := [some (vR 0)]) (st' := [vR 0]) rfl ?_
  refine g_getI rfl (g_A (a := 0) (kd := 0) (n := 11) rfl (by decide)) h ?_
  refine g_if1 (i' := 5) (P := False) rfl rfl (by show (¬ (0 : Int32) = 0) ↔ False; simp) (fun h => h.elim) (fun _ => ?_)
  refine g_pure 1 (i' := 4) (lv' := [some (vR 0)]) (st' := [vI 0]) rfl ?_
  exact g_bret rfl g_nar0 rfl
theorem c_back1 {X : Nat × (Nat → Int32)} {d : Nat} {p : Nat → Nat} {sg : Mg} (h : sg 0 12 = 1) : gF X (d + 6) 134 [vR 0] p sg (fun r => ∃ s, ((∀ c, c ≠ 0 → c ≤ 201 ∨ 270 ≤ c → s c = sg c) ∧ (∀ k, k ≠ 11 → s 0 k = sg 0 k) ∧ s 0 11 = 0 ∧ ∀ S, sn S 14 ≤ 100 → cwW 400 sg S → cwW 200 s S) ∧ r = gRv p s 1) := by
  refine g_in (cd := k_134) (nL := 1) (rc := 12) rfl (g_A (a := 0) (kd := 0) (n := 11) rfl (by decide)) (g_c1 rfl) ?_
  show gW X (d + 5) k_134 0 [some (vR 0)] [] p sg _
  refine g_pure 1 (i' := 1) (lv' := [some (vR 0)]) (st' := [vR 0]) rfl ?_
  refine g_getI rfl (g_A (a := 0) (kd := 0) (n := 11) rfl (by decide)) h ?_
  refine g_if1 (i' := 5) (P := True) rfl rfl (by show (¬ (1 : Int32) = 0) ↔ True; decide) (fun _ => ?_) (fun h => absurd trivial h)
  refine g_pure 4 (i' := 9) (lv' := [some (vR 0)]) (st' := [vR 400, vR 200]) rfl ?_
  refine g_cV0E rfl (args := [vR 200, vR 400]) (rest := []) rfl rfl rfl (s_106 (d := d) (Or.inl rfl) (Or.inr (Or.inr rfl)) (by decide)) (fun s1 h1 => ?_)
  refine g_pure 2 (i' := 12) (lv' := [some (vR 0)]) (st' := [vI 0, vR 0]) rfl ?_
  refine g_putI rfl (g_A (a := 0) (kd := 0) (n := 11) rfl (by decide)) ?_
  refine g_pure 1 (i' := 14) (lv' := [some (vR 0)]) (st' := [vI 1]) rfl ?_
  refine g_bret rfl g_nar1 ?_
  refine ⟨_, ⟨fun c h0 hc => ?_, fun k hk => ?_, mu_self, fun S h14 hS => ?_⟩, rfl⟩
  · rw [mu_ne h0]; exact h1.1 c hc
  · rw [mu_idx hk]; exact congrFun (h1.1 0 (by decide)) k
  · obtain ⟨g1, g2, g3⟩ := h1.2 S h14 hS
    exact ⟨g1.out (by decide), g2.out (by decide), g3.eqx (m := []) (fun c c1 c2 => mu_ne (by omega))⟩
/-- the order of the acts -/
def okp (p : Nat → Nat) : Prop := (∀ i, i < 12 → p i < 12) ∧ ∀ i j, i < 12 → j < 12 → p i = p j → i = j
theorem g_acts {p : Nat → Nat} {k : Nat} (hk : k < 12) : g_ref p 3 k = some (500 + 20 * p k) := by
  unfold g_ref
  rw [if_pos rfl, if_pos hk]
theorem c_undo0 {X : Nat × (Nat → Int32)} {d : Nat} {p : Nat → Nat} {sg : Mg} (h : sg 0 11 = 0) : gF X (d + 5) 130 [vR 0] p sg (fun r => r = gRv p sg 0) := by
  refine g_in (cd := k_130) (nL := 1) (rc := 12) rfl (g_A (a := 0) (kd := 0) (n := 11) rfl (by decide)) (g_c1 rfl) ?_
  show gW X (d + 4) k_130 0 [some (vR 0)] [] p sg _
  refine g_pure 1 (i' := 1) (lv' := [some (vR 0)]) (st' := [vR 0]) rfl ?_
  refine g_getI rfl (g_A (a := 0) (kd := 0) (n := 11) rfl (by decide)) h ?_
  refine g_if1 (i' := 5) (P := False) rfl rfl (by show (¬ (0 : Int32) = 0) ↔ False; simp) (fun h => h.elim) (fun _ => ?_)
  refine g_pure 1 (i' := 4) (lv' := [some (vR 0)]) (st' := [vI 0]) rfl ?_
  exact g_bret rfl g_nar0 rfl
theorem c_undo1 {X : Nat × (Nat → Int32)} {d : Nat} {p : Nat → Nat} {sg : Mg} (hp : okp p) {n : Nat} (h1 : 1 ≤ n) (h12 : n ≤ 12) (h : sg 0 11 = nI n) : gF X (d + 5) 130 [vR 0] p sg (fun r => ∃ s, ((∀ c, c ≠ 0 → c < 250 ∨ 268 ≤ c → s c = sg c) ∧ (∀ k, k ≠ 11 → s 0 k = sg 0 k) ∧ s 0 11 = nI (n - 1) ∧ ∀ S, sn S 14 ≤ 100 → cwL (500 + 20 * p (n - 1)) sg S → cwL 250 s S) ∧ r = gRv p s 1) := by
  have hq := hp.1 (n - 1) (by omega)
  refine g_in (cd := k_130) (nL := 1) (rc := 12) rfl (g_A (a := 0) (kd := 0) (n := 11) rfl (by decide)) (g_c1 rfl) ?_
  show gW X (d + 4) k_130 0 [some (vR 0)] [] p sg _
  refine g_pure 1 (i' := 1) (lv' := [some (vR 0)]) (st' := [vR 0]) rfl ?_
  refine g_getI rfl (g_A (a := 0) (kd := 0) (n := 11) rfl (by decide)) h ?_
  refine g_if1 (i' := 5) (P := True) rfl rfl (by show (¬ nI n = 0) ↔ True; simp [nI_ne0 (show 0 < n by omega) (by omega)]) (fun _ => ?_) (fun h => absurd trivial h)
  refine g_pure 2 (i' := 7) (lv' := [some (vR 0)]) (st' := [vR 0, vR 0]) rfl ?_
  refine g_getI rfl (g_A (a := 0) (kd := 0) (n := 11) rfl (by decide)) h ?_
  refine g_pure 2 (i' := 10) (lv' := [some (vR 0)]) (st' := [vI (nI n - 1), vR 0]) rfl ?_
  refine g_putI rfl (g_A (a := 0) (kd := 0) (n := 11) rfl (by decide)) ?_
  refine g_setv (fun s1 e1 => ?_)
  have k1 : s1 0 11 = nI (n - 1) := by rw [e1, mu_self]; exact g_sub rfl (show (1 : Int32) = nI 1 from rfl) h1
  refine g_pure 6 (i' := 17) (lv' := [some (vR 0)]) (st' := [vR 0, vR 3, vR 250]) rfl ?_
  refine g_getI rfl (g_A (a := 0) (kd := 0) (n := 11) rfl (by decide)) k1 ?_
  refine g_aald (k := n - 1) rfl (Or.inr rfl) (g_A (a := 3) (kd := 6) (n := 12) rfl (by decide)) (by decide) rfl (by omega) (g_acts (by omega)) ?_
  refine g_cV0E rfl (args := [vR 250, vR (500 + 20 * p (n - 1))]) (rest := []) rfl rfl rfl (s_55 (d := d) (Or.inl rfl) (Or.inr (Or.inr (Or.inr ⟨_, hq, rfl⟩))) (by omega)) (fun s2 h2 => ?_)
  refine g_pure 1 (i' := 21) (lv' := [some (vR 0)]) (st' := [vI 1]) rfl ?_
  refine g_bret rfl g_nar1 ?_
  refine ⟨s2, ⟨fun c h0 hc => ?_, fun k hk => ?_, ?_, fun S h14 hS => ?_⟩, rfl⟩
  · rw [h2.1 c hc, e1, mu_ne h0]
  · rw [h2.1 0 (by decide), e1, mu_idx hk]
  · rw [h2.1 0 (by decide), k1]
  · exact h2.2 S h14 (by rw [e1]; exact hS.out (by omega))

theorem g_ptr_acts {p : Nat → Nat} {sg : Mg} {i q : Nat} (hi : i < 12) : am_ptr (gE p, sg) 3 i (500 + 20 * q) = (gE (va_up p i q), sg) := by
  refine Prod.ext (Prod.ext rfl (Prod.ext rfl ?_)) rfl
  funext a
  show va_up (g_sh p) 3 _ a = g_sh (va_up p i q) a
  by_cases h : a = 3
  · subst h
    rw [va_up_self]
    show ((g_cell 3).1, (g_cell 3).2.1, va_up (g_ref p 3) i (some (500 + 20 * q))) = ((g_cell 3).1, (g_cell 3).2.1, g_ref (va_up p i q) 3)
    congr 2
    funext j
    by_cases hj : j = i
    · subst hj
      rw [va_up_self, g_acts hi, va_up_self]
    · rw [va_up_ne _ _ hj]
      unfold g_ref
      rw [if_pos rfl, if_pos rfl, va_up_ne _ _ hj]
  · rw [va_up_ne _ _ h]
    unfold g_sh
    rw [show g_ref p a = g_ref (va_up p i q) a from funext (fun k => by unfold g_ref; rw [if_neg h, if_neg h])]
theorem g_aast {X : Nat × (Nat → Int32)} {d : Nat} {cd : List am_CE} {i : Nat} {lv : List (Option AV)} {st : List AV} {p : Nat → Nat} {sg : Mg} {Q : am_R → Prop} {pc nx r1 r2 k q : Nat} {x e : Int32} (h : cd.drop i = (pc, .aastore, nx, r1, r2, x) :: cd.drop (i + 1)) (he : e = nI k) (hk : k < 12) (hq : q < 12) (g : gW X d cd (i + 1) lv st (va_up p k q) sg Q) : gW X d cd i lv (vR (500 + 20 * q) :: vI e :: vR 3 :: st) p sg Q := by
  obtain ⟨h1, h2⟩ := g_idx (n := 12) he hk (by omega)
  refine g_stp h ⟨12, lf_obj (Or.inr (Or.inr (Or.inr ⟨q, hq, rfl⟩))), g_A (a := 3) (kd := 6) (n := 12) rfl (by decide), h1, ?_⟩
  rw [h2, g_ptr_acts hk]
  exact g
/-- the acts one ahead, the first behind all -/
def rotp (p : Nat → Nat) (i : Nat) : Nat := if i < 11 then p (i + 1) else if i = 11 then p 0 else p i
theorem rotp_lt {p : Nat → Nat} {i : Nat} (h : i < 11) : rotp p i = p (i + 1) := if_pos h
theorem rotp_11 {p : Nat → Nat} {i : Nat} (h : ¬ i < 11) (h2 : i < 12) : rotp p i = p 0 := (if_neg h).trans (if_pos (by omega))
theorem rotp_ok {p : Nat → Nat} (h : okp p) : okp (rotp p) := by
  refine ⟨fun i hi => ?_, fun i j hi hj e => ?_⟩
  · by_cases h1 : i < 11
    · rw [rotp_lt h1]; exact h.1 _ (by omega)
    · rw [rotp_11 h1 hi]; exact h.1 _ (by omega)
  · by_cases h1 : i < 11 <;> by_cases h2 : j < 11
    · rw [rotp_lt h1, rotp_lt h2] at e
      have := h.2 _ _ (by omega) (by omega) e
      omega
    · rw [rotp_lt h1, rotp_11 h2 hj] at e
      have := h.2 _ _ (by omega) (by omega) e
      omega
    · rw [rotp_11 h1 hi, rotp_lt h2] at e
      have := h.2 _ _ (by omega) (by omega) e
      omega
    · omega
def rem_p (p : Nat → Nat) (n : Nat) : Nat → Nat := if n = 12 then rotp p else p
/-- remember, from where the acts are in order -/
theorem l_153_37 {X : Nat × (Nat → Int32)} {d : Nat} {p : Nat → Nat} {sg : Mg} {Q : am_R → Prop} {z1 z2 : Option AV} (hp : okp p) {n : Nat} (hn : n < 12) (h : sg 0 11 = nI n)
    (x : ∀ s, ((∀ c, c ≠ 0 → c < 500 + 20 * p n ∨ 500 + 20 * p n + 18 ≤ c → s c = sg c) ∧ (∀ k, k ≠ 11 → s 0 k = sg 0 k) ∧ s 0 11 = nI (n + 1) ∧ ∀ S, sn S 14 ≤ 100 → cwL 250 sg S → cwL (500 + 20 * p n) s S) → Q (gR0 p s)) :
    gW X (d + 4) k_153 37 [some (vR 0), z1, z2] [] p sg Q := by
  have hq := hp.1 n hn
  refine g_pure 3 (i' := 40) (lv' := [some (vR 0), z1, z2]) (st' := [vR 0, vR 3]) rfl ?_
  refine g_getI rfl (g_A (a := 0) (kd := 0) (n := 11) rfl (by decide)) h ?_
  refine g_aald (k := n) rfl (Or.inr rfl) (g_A (a := 3) (kd := 6) (n := 12) rfl (by decide)) (by decide) rfl (by omega) (g_acts (by omega)) ?_
  refine g_pure 3 (i' := 45) (lv' := [some (vR 0), z1, z2]) (st' := [vR 250, vR (500 + 20 * p n)]) rfl ?_
  refine g_cV0E rfl (args := [vR (500 + 20 * p n), vR 250]) (rest := []) rfl rfl rfl (s_55 (d := d) (Or.inr (Or.inr (Or.inr ⟨_, hq, rfl⟩))) (Or.inl rfl) (by omega)) (fun s2 h2 => ?_)
  have k2 : s2 0 11 = nI n := by rw [h2.1 0 (by omega)]; exact h
  refine g_pure 2 (i' := 48) (lv' := [some (vR 0), z1, z2]) (st' := [vR 0, vR 0]) rfl ?_
  refine g_getI rfl (g_A (a := 0) (kd := 0) (n := 11) rfl (by decide)) k2 ?_
  refine g_pure 2 (i' := 51) (lv' := [some (vR 0), z1, z2]) (st' := [vI (nI n + 1), vR 0]) rfl ?_
  refine g_putI rfl (g_A (a := 0) (kd := 0) (n := 11) rfl (by decide)) ?_
  refine g_vret rfl (x _ ⟨fun c h0 hc => ?_, fun k hk => ?_, ?_, fun S h14 hS => ?_⟩)
  · rw [mu_ne h0]; exact h2.1 c hc
  · rw [mu_idx hk, h2.1 0 (by omega)]
  · rw [mu_self]; exact (nI_succ n).symm
  · exact (h2.2 S h14 hS).out (by omega)
theorem s_153 {X : Nat × (Nat → Int32)} {d : Nat} {p : Nat → Nat} {sg : Mg} (hp : okp p) {n : Nat} (hn : n ≤ 12) (h : sg 0 11 = nI n) : gF X (d + 5) 153 [vR 0] p sg (fun r => ∃ s, ((∀ c, c ≠ 0 → c < 500 + 20 * rem_p p n (min n 11) ∨ 500 + 20 * rem_p p n (min n 11) + 18 ≤ c → s c = sg c) ∧ (∀ k, k ≠ 11 → s 0 k = sg 0 k) ∧ s 0 11 = nI (min (n + 1) 12) ∧ ∀ S, sn S 14 ≤ 100 → cwL 250 sg S → cwL (500 + 20 * rem_p p n (min n 11)) s S) ∧ r = gR0 (rem_p p n) s) := by
  refine g_in (cd := k_153) (nL := 3) (rc := 12) rfl (g_A (a := 0) (kd := 0) (n := 11) rfl (by decide)) (g_c1 rfl) ?_
  show gW X (d + 4) k_153 0 [some (vR 0), none, none] [] p sg _
  refine g_pure 1 (i' := 1) (lv' := [some (vR 0), none, none]) (st' := [vR 0]) rfl ?_
  refine g_getI rfl (g_A (a := 0) (kd := 0) (n := 11) rfl (by decide)) h ?_
  refine g_pure 1 (i' := 3) (lv' := [some (vR 0), none, none]) (st' := [vI 12, vI (nI n)]) rfl ?_
  refine g_if2 (i' := 37) (P := ¬ n = 12) rfl rfl (g_neN rfl (show (12 : Int32) = nI 12 from rfl) (by omega) (by omega)) (fun h12 => ?_) (fun h12 => ?_)
  · rw [show rem_p p n = p from if_neg h12, Nat.min_eq_left (show n ≤ 11 by omega), Nat.min_eq_left (show n + 1 ≤ 12 by omega)]
    exact l_153_37 hp (by omega) h (fun s hs => ⟨s, hs, rfl⟩)
  · have h12 : n = 12 := Classical.not_not.mp h12
    subst h12
    rw [show rem_p p 12 = rotp p from if_pos rfl, show min 12 11 = 11 from rfl, show min (12 + 1) 12 = 12 from rfl]
    refine g_pure 3 (i' := 7) (lv' := [some (vR 0), none, none]) (st' := [vI 0, vR 3]) rfl ?_
    refine g_aald (k := 0) rfl (Or.inr rfl) (g_A (a := 3) (kd := 6) (n := 12) rfl (by decide)) (by decide) rfl (by omega) (g_acts (by omega)) ?_
    refine g_pure 3 (i' := 11) (lv' := [some (vR 0), some (vR (500 + 20 * p 0)), some (vI (nI 1))]) (st' := []) rfl ?_
    refine g_upI (P := fun i => gW X (d + 4) k_153 11 [some (vR 0), some (vR (500 + 20 * p 0)), some (vI (nI i))] [] (fun j => if j < i - 1 then p (j + 1) else p j) sg _) (I := fun _ => True) (n := 12) (a := 1) (by omega) trivial (fun i hi1 hi2 _ ih => ?_) (fun _ => ?_)
    · refine g_pure 2 (i' := 13) (lv' := [some (vR 0), some (vR (500 + 20 * p 0)), some (vI (nI i))]) (st' := [vI 12, vI (nI i)]) rfl ?_
      refine g_if2 (i' := 26) (P := 12 ≤ i) rfl rfl (g_geN rfl (show (12 : Int32) = nI 12 from rfl) (by omega) (by omega)) (fun h9 => by omega) (fun _ => ?_)
      refine g_pure 8 (i' := 22) (lv' := [some (vR 0), some (vR (500 + 20 * p 0)), some (vI (nI i))]) (st' := [vI (nI i), vR 3, vI (nI i - 1), vR 3]) rfl ?_
      refine g_aald (k := i) (q := 500 + 20 * p i) rfl (Or.inr rfl) (g_A (a := 3) (kd := 6) (n := 12) rfl (by decide)) (by decide) rfl (by omega) (by rw [g_acts (by omega), if_neg (by omega)]) ?_
      refine g_aast (k := i - 1) rfl (g_sub rfl (show (1 : Int32) = nI 1 from rfl) (by omega)) (by omega) (hp.1 i (by omega)) ?_
      refine g_pure 2 (i' := 11) (lv' := [some (vR 0), some (vR (500 + 20 * p 0)), some (vI (nI i + 1))]) (st' := []) rfl ?_
      refine gW_eq (lv' := [some (vR 0), some (vR (500 + 20 * p 0)), some (vI (nI (i + 1)))]) (by rw [nI_succ]) rfl rfl ?_
      have e : va_up (fun j => if j < i - 1 then p (j + 1) else p j) (i - 1) (p i) = fun j => if j < i + 1 - 1 then p (j + 1) else p j := by
        funext j
        by_cases hj : j = i - 1
        · subst hj
          rw [va_up_self, if_pos (by omega)]
          congr 1
          omega
        · rw [va_up_ne _ _ hj]
          by_cases h2 : j < i - 1
          · rw [if_pos h2, if_pos (by omega)]
          · rw [if_neg h2, if_neg (by omega)]
      rw [e]
      exact ih trivial
    · refine g_pure 2 (i' := 13) (lv' := [some (vR 0), some (vR (500 + 20 * p 0)), some (vI (nI 12))]) (st' := [vI 12, vI (nI 12)]) rfl ?_
      refine g_if2 (i' := 26) (P := 12 ≤ 12) rfl rfl (g_geN rfl (show (12 : Int32) = nI 12 from rfl) (by omega) (by omega)) (fun _ => ?_) (fun h9 => by omega)
      refine g_pure 4 (i' := 30) (lv' := [some (vR 0), some (vR (500 + 20 * p 0)), some (vI (nI 12))]) (st' := [vR (500 + 20 * p 0), vI 11, vR 3]) rfl ?_
      refine g_aast (k := 11) rfl rfl (by omega) (hp.1 0 (by omega)) ?_
      have e : va_up (fun j => if j < 12 - 1 then p (j + 1) else p j) 11 (p 0) = rotp p := by
        funext j
        unfold rotp
        by_cases hj : j = 11
        · subst hj
          rw [va_up_self]
          rfl
        · rw [va_up_ne _ _ hj]
          by_cases h2 : j < 11
          · rw [if_pos h2, if_pos h2]
          · rw [if_neg h2, if_neg h2, if_neg hj]
      rw [e]
      refine g_pure 2 (i' := 33) (lv' := [some (vR 0), some (vR (500 + 20 * p 0)), some (vI (nI 12))]) (st' := [vR 0, vR 0]) rfl ?_
      refine g_getI rfl (g_A (a := 0) (kd := 0) (n := 11) rfl (by decide)) h ?_
      refine g_pure 2 (i' := 36) (lv' := [some (vR 0), some (vR (500 + 20 * p 0)), some (vI (nI 12))]) (st' := [vI (nI 12 - 1), vR 0]) rfl ?_
      refine g_putI rfl (g_A (a := 0) (kd := 0) (n := 11) rfl (by decide)) ?_
      refine l_153_37 (n := 11) (rotp_ok hp) (by omega) (by rw [mu_self]; rfl) (fun s hs => ⟨s, ⟨fun c h0 hc => ?_, fun k hk => ?_, hs.2.2.1, fun S h14 hS => ?_⟩, rfl⟩)
      · rw [hs.1 c h0 hc, mu_ne h0]
      · rw [hs.2.1 k hk, mu_idx hk]
      · exact hs.2.2.2 S h14 (hS.out (by decide))
