/-! PLAN: the search of the class, walked (made by wip/whole/gen89f.py) -/
/-- what the search at depth e may write -/
def FP (e : Nat) (a b : Mg) : Prop := (∀ c, c ≠ 8 → c ≠ 9 → c ≠ 10 → c ≠ 201 → c ≠ 213 → (c < 165 + e ∨ 170 ≤ c) → b c = a c) ∧ (∀ f, f ≠ 11 → b 8 f = a 8 f) ∧ (0 < e → b 8 11 = a 8 11)
theorem FP.rf (e : Nat) (a : Mg) : FP e a a := ⟨fun _ _ _ _ _ _ _ => rfl, fun _ _ => rfl, fun _ => rfl⟩
theorem FP.tr {e : Nat} {a b c : Mg} (h : FP e a b) (g : FP e b c) : FP e a c := ⟨fun x h1 h2 h3 h4 h5 h6 => (g.1 x h1 h2 h3 h4 h5 h6).trans (h.1 x h1 h2 h3 h4 h5 h6), fun f hf => (g.2.1 f hf).trans (h.2.1 f hf), fun he => (g.2.2 he).trans (h.2.2 he)⟩
theorem FP.sf {e : Nat} {a b : Mg} (h : SF a b) : FP e a b := ⟨fun x _ h2 h3 h4 h5 _ => h x h2 h3 h4 h5, fun f _ => by rw [h 8 (by decide) (by decide) (by decide) (by decide)], fun _ => by rw [h 8 (by decide) (by decide) (by decide) (by decide)]⟩
theorem FP.down {e : Nat} {a b : Mg} (h : FP (e + 1) a b) : FP e a b := ⟨fun x h1 h2 h3 h4 h5 h6 => h.1 x h1 h2 h3 h4 h5 (by omega), h.2.1, fun _ => h.2.2 (Nat.succ_pos _)⟩
theorem FP.L {e : Nat} {sg s : Mg} {S : Nat → Int32} (h : FP e sg s) (hL : cwL 250 sg S) : cwL 250 s S := hL.eqc (fun c c1 c2 => h.1 c (by omega) (by omega) (by omega) (by omega) (by omega) (by omega))
theorem FP.D {e : Nat} {sg s : Mg} {S : Nat → Int32} (h : FP e sg s) (hD : cwD 200 sg S) : cwD 200 s S := hD.eqc (fun c c1 => h.1 c (by omega) (by omega) (by omega) (by omega) (by omega) (by omega))
theorem FP.W {e : Nat} {sg s : Mg} {S : Nat → Int32} (h : FP e sg s) (hW : LW S sg) : LW S s := hW.eqc (fun c c1 c2 => h.1 c (by omega) (by omega) (by omega) (by omega) (by omega) (by omega))
theorem mu_same {sg : Mg} {a i : Nat} : mu sg a i (sg a i) = sg := by
  funext b
  by_cases h : b = a
  · subst h; rw [mu_row]; funext j; unfold upd; split
    · rename_i h; rw [h]
    · rfl
  · rw [mu_ne h]
theorem bOK.f11 {S : Nat → Int32} {s : Mg} {x : Int32} (h : bOK S s) : bOK S (mu s 8 11 x) := ⟨by rw [mu_idx (by decide)]; exact h.1, fun hh k t a b => by rw [mu_ne (by decide)]; exact h.2 hh k t a b⟩
/-- the first task: the least of those with which it ends at x -/
def FT (S : Nat → Int32) (k n R v h r m x : Nat) (ft : Int32) : Prop := ∃ q0, q0 < m ∧ ft = nI q0 ∧ CHq S k n R v h r q0 x ∧ ∀ q, q < q0 → ¬ CHq S k n R v h r q x
theorem FT.up {S : Nat → Int32} {k n R v h r m x : Nat} {ft : Int32} (g : FT S k n R v h r m x ft) : FT S k n R v h r (m + 1) x ft := by
  obtain ⟨q0, h1, h2⟩ := g
  exact ⟨q0, by omega, h2⟩
theorem ex_up {P : Nat → Prop} {j : Nat} : (∃ q, q < j + 1 ∧ P q) ↔ (∃ q, q < j ∧ P q) ∨ P j := by
  constructor
  · intro ⟨q, h1, h2⟩
    by_cases e : q = j
    · subst e; exact Or.inr h2
    · exact Or.inl ⟨q, by omega, h2⟩
  · intro h
    rcases h with ⟨q, h1, h2⟩ | h
    · exact ⟨q, by omega, h2⟩
    · exact ⟨j, by omega, h⟩
theorem dsV_le {B : Nat} {S : Nat → Int32} (hI : Inv B S) {R r j x : Nat} (hr : r ≤ 200406) (hx : x ≤ 200400 ∨ x = 2000000000) : dsV S R r j x ≤ 2000000000 := by
  have b9 := hI.b9
  unfold dsV
  by_cases c : (S (269 + 5 * j + 2) = -1 ∨ R.testBit (sn S (269 + 5 * j + 2)) = false) ∧ ¬ x = 2000000000
  · rw [if_pos c]
    have := nxt_lt hI (sn S (269 + 5 * j)) (sn S (269 + 5 * j + 1)) (max x r)
    omega
  · rw [if_neg c]
    omega
/-- what holds of the search when the tasks below j have been tried -/
def SJ (S : Nat → Int32) (k n e R v h r : Nat) (F : Nat → Nat) (sg : Mg) (j : Nat) (s : Mg) (b : Nat) : Prop := FP e sg s ∧ bOK S s ∧ (∀ u, u < 6 → s (165 + e) u = nI (F u)) ∧ leP (fun y => ∃ q, q < j ∧ CHq S k n R v h r q y) (400 + sn S 8) b ∧ (e = 0 → ¬ b = 2000000000 → FT S k n R v h r j b (s 8 11))
theorem SJ.skip {B : Nat} {S : Nat → Int32} (hI : Inv B S) {k n e R v h r j b : Nat} {F : Nat → Nat} {sg s : Mg} (g : SJ S k n e R v h r F sg j s b) (h9 : ∀ y, y ≤ 400 + sn S 8 → CHq S k n R v h r j y → b ≤ y) : SJ S k n e R v h r F sg (j + 1) s b := by
  have b8 := hI.b8
  exact ⟨g.1, g.2.1, g.2.2.1, (g.2.2.2.1.skip (by omega) h9).eqv (fun y => ex_up), fun he hb => (g.2.2.2.2 he hb).up⟩
theorem s_104 {X : Nat × (Nat → Int32)} {p : Nat → Nat} {B : Nat} {S : Nat → Int32} (hI : Inv B S) {k : Nat} (hk : k < sn S 1) : ∀ n e R v h r d (sg : Mg), e + n = 5 → cwL 250 sg S → cwD 200 sg S → LW S sg → bOK S sg → R < 256 → v < sn S 0 → sn S 8 ≤ h → h ≤ 200405 → (R = 0 → h ≤ 400 + sn S 8) → r ≤ 200406 → (e = 0 → ¬ R = 0) → gF X (d + n + 7) 104 [vR 8, vI (nI k), vI (nI R), vI (nI v), vI (nI h), vI (nI r), vI (nI e)] p sg (fun q => ∃ s x, (FP e sg s ∧ bOK S s ∧ leP (CH S k n R v h r) (400 + sn S 8) x ∧ (e = 0 → ¬ x = 2000000000 → ∃ m, n = m + 1 ∧ FT S k m R v h r (sn S 5) x (s 8 11))) ∧ q = gRv p s (nI x))
  | 0, e, R, v, h, r, d, sg, he, hL, hD, hW, hB, hR, hv, h1, h2, h3, hr, h4 => by
    have b0 := hI.b0; have b1 := hI.b1; have b8 := hI.b8
    have z : R = 0 → ∃ s x, (FP e sg s ∧ bOK S s ∧ leP (CH S k 0 R v h r) (400 + sn S 8) x ∧ (e = 0 → ¬ x = 2000000000 → ∃ m, 0 = m + 1 ∧ FT S k m R v h r (sn S 5) x (s 8 11))) ∧ gRv p sg (nI h) = gRv p s (nI x) := fun h9 => by
      refine ⟨sg, h, ⟨FP.rf e sg, hB, Or.inr ⟨h3 h9, ?_, fun y hy => ?_⟩, fun e0 => absurd h9 (h4 e0)⟩, rfl⟩
      · subst h9; exact CH.zero.mpr rfl
      · subst h9; rw [CH.zero.mp hy]; exact Nat.le_refl _
    show gF X (d + 6 + 1) 104 _ p sg _
    refine g_in (cd := k_104) (nL := 12) (rc := 10) rfl (g_A (a := 8) (kd := 0) (n := 9) rfl (by decide)) (g_c1 rfl) (b_104_0 (d := d) hI hL hD (by omega) (by omega) (by omega) h2 hr (by omega) hk z (fun _ h9 => by omega) (fun h9 _ _ => ?_) (fun _ _ h9 => z h9))
    exact ⟨sg, 2000000000, ⟨FP.rf e sg, hB, leP.no (fun y _ g => h9 g.1), fun _ hx => absurd rfl hx⟩, rfl⟩
  | n + 1, e, R, v, h, r, d, sg, he, hL, hD, hW, hB, hR, hv, h1, h2, h3, hr, h4 => by
    have b0 := hI.b0; have b1 := hI.b1; have b5 := hI.b5; have b8 := hI.b8
    show gF X (d + n + 7 + 1) 104 _ p sg _
    refine g_in (cd := k_104) (nL := 12) (rc := 10) rfl (g_A (a := 8) (kd := 0) (n := 9) rfl (by decide)) (g_c1 rfl) ?_
    show gW X (d + n + 7) k_104 0 [some (vR 8), some (vI (nI k)), some (vI (nI R)), some (vI (nI v)), some (vI (nI h)), some (vI (nI r)), some (vI (nI e)), none, none, none, none, none] [] p sg _
    refine b_104_0 (d := d + n + 1) hI hL hD (by omega) (by omega) (by omega) h2 hr (by omega) hk (fun h9 => ?_) (fun hR0 _ => ?_) (fun _ h9 => by omega) (fun h9 _ h8 => absurd h8 h9)
    · refine ⟨sg, h, ⟨FP.rf e sg, hB, Or.inr ⟨h3 h9, ?_, fun y hy => ?_⟩, fun e0 => absurd h9 (h4 e0)⟩, rfl⟩
      · subst h9; exact CH.zero.mpr rfl
      · subst h9; rw [CH.zero.mp hy]; exact Nat.le_refl _
    refine b_104_17 (d := d + n + 1) hI hL hD hW hB (by omega) (by omega) (by omega) h2 hr (by omega) (by omega) hk hv h1 (fun s1 h9 => ?_)
    obtain ⟨f1, hB1, F, hM, hP⟩ := h9
    have e11 : 165 + e ≠ 10 := by omega
    refine g_calS rfl (args := [vR 10, vR (165 + e)]) (rest := []) rfl rfl (Nat.zero_le _) (s_132 (d := d + n + 5) (g_A (a := 10) (kd := 1) (n := 6) rfl (by decide)) (gA_15 (k := e) (by omega)) (by omega)) (fun q hq => ?_)
    have hq : q = gR0 p (va_up s1 (165 + e) (va_cpy (s1 10) (s1 (165 + e)) 0 0 6)) := hq
    subst hq
    refine gK_0 ?_
    have f2 : FP e sg (va_up s1 (165 + e) (va_cpy (s1 10) (s1 (165 + e)) 0 0 6)) := (FP.sf f1).tr ⟨fun c _ _ _ _ _ _ => va_up_ne _ _ (by omega), fun f _ => by rw [va_up_ne _ _ (by omega)], fun _ => by rw [va_up_ne _ _ (by omega)]⟩
    have hB2 : bOK S (va_up s1 (165 + e) (va_cpy (s1 10) (s1 (165 + e)) 0 0 6)) := hB1.eq (va_up_ne _ _ (by omega)) (va_up_ne _ _ (by omega))
    have hM2 : ∀ u, u < 6 → (va_up s1 (165 + e) (va_cpy (s1 10) (s1 (165 + e)) 0 0 6)) (165 + e) u = nI (F u) := fun u hu => by
      rw [va_up_self]
      show va_cpy (s1 10) (s1 (165 + e)) 0 0 6 u = _
      rw [← (hM u hu).1]
      unfold va_cpy
      rw [if_pos (by omega)]
      congr 1
      omega
    generalize va_up s1 (165 + e) (va_cpy (s1 10) (s1 (165 + e)) 0 0 6) = s2 at f2 hB2 hM2
    have hF : ∀ u, u < sn S 0 → F u ≤ 200400 ∨ F u = 2000000000 := fun u hu => by
      rcases hP.1 u hu with g | g <;> omega
    refine g_pure 4 (i' := 34) (lv' := [some (vR 8), some (vI (nI k)), some (vI (nI R)), some (vI (nI v)), some (vI (nI h)), some (vI (nI r)), some (vI (nI e)), some (vI (nI (400 + sn S 8))), some (vI 2000000000), some (vI 0), none, none]) (st' := []) rfl ?_
    have key := g_upI (P := fun j => ∀ s b z10 z11, SJ S k n e R v h r F sg j s b → gW X (d + n + 7) k_104 34 [some (vR 8), some (vI (nI k)), some (vI (nI R)), some (vI (nI v)), some (vI (nI h)), some (vI (nI r)), some (vI (nI e)), some (vI (nI (400 + sn S 8))), some (vI (nI b)), some (vI (nI j)), z10, z11] [] p s (fun q => ∃ s x, (FP e sg s ∧ bOK S s ∧ leP (CH S k (n + 1) R v h r) (400 + sn S 8) x ∧ (e = 0 → ¬ x = 2000000000 → ∃ m, n + 1 = m + 1 ∧ FT S k m R v h r (sn S 5) x (s 8 11))) ∧ q = gRv p s (nI x))) (I := fun _ => True) (n := sn S 5) (a := 0) (by omega) trivial ?_ ?_
    · exact key s2 2000000000 none none ⟨f2, hB2, hM2, leP.no (fun y _ ⟨q, g, _⟩ => absurd g (by omega)), fun _ h9 => absurd rfl h9⟩
    · intro j _ hj _ ih s b z10 z11 g
      have ih := ih trivial
      have hbl := g.2.2.2.1.le (by omega)
      have hk9 := hI.tas hj
      have hb := nI_bit0 (a := R) (k := j) (by omega) (by omega)
      refine b_104_34 (d := d + n + 1) hI (g.1.L hL) (g.1.D hD) (by omega) (by omega) hr (by omega) (by omega) hbl (by omega) (fun h9 => by omega) (fun _ h9 => ?_) (fun _ h9 => ?_)
      · refine ih _ _ _ _ (g.skip hI (fun y _ hq => ?_))
        obtain ⟨tm, hq, _⟩ := hq
        have h8 := hq.2.1
        rw [hb.mp h9] at h8
        cases h8
      · have hbt : R.testBit j = true := Classical.byContradiction (fun h6 => h9 (hb.mpr (by simpa using h6)))
        refine g_cV1 rfl (args := [vR 8, vI (nI j), vI (nI R), vI (nI r), vR (165 + e)]) (rest := []) rfl rfl rfl (s_105 (d := d + n + 2) hI (g.1.L hL) (g.1.D hD) (gA_15 (k := e) (by omega)) hj hR hr (g.2.2.1 _ (by have := hk9.1.2; omega)) (hF _ hk9.1.2)) ?_
        have ht2 := dsV_le hI (R := R) (r := r) (j := j) (x := F (sn S (269 + 5 * j))) hr (hF _ hk9.1.2)
        have hmin : ∀ y, y ≤ 400 + sn S 8 → CHq S k n R v h r j y → dsV S R r j (F (sn S (269 + 5 * j))) ≤ y := fun y hy hq => ds_q hI (by omega) hP hq hy
        have hle := fun z => ds_le hI (n := n) (r := r) (z := z) (by omega) hP hj hbt
        have hok := ds_ok hI (r := r) (by omega) hP hj hbt
        generalize dsV S R r j (F (sn S (269 + 5 * j))) = t at ht2 hmin hle hok
        refine g_pure 2 (i' := 59) (lv' := [some (vR 8), some (vI (nI k)), some (vI (nI R)), some (vI (nI v)), some (vI (nI h)), some (vI (nI r)), some (vI (nI e)), some (vI (nI (400 + sn S 8))), some (vI (nI b)), some (vI (nI j)), some (vI (nI t)), z11]) (st' := []) rfl ?_
        refine b_104_59 (d := d + n + 1) hI (g.1.L hL) (g.1.D hD) (by omega) (by omega) hr (by omega) (by omega) hbl (by omega) ht2 hj (fun h8 => ?_) (fun h7 h8 => ?_) (fun h7 h8 => ?_)
        · exact ih _ _ _ _ (g.skip hI (fun y hy hq => by have := hmin y hy hq; omega))
        · exact ih _ _ _ _ (g.skip hI (fun y hy hq => by have := hmin y hy hq; omega))
        · have hok := hok (by omega)
          have hth := hok.2.2.2.1.ge
          have hx := pop_x R hR j (by omega) hbt
          rw [clr_bit R hR j (by omega) hbt, hk9.1.1]
          refine g_calV rfl (args := [vR 8, vI (nI k), vI (nI (R ^^^ 2 ^ j)), vI (nI (sn S (269 + 5 * j))), vI (nI t), vI (nI (t + 1)), vI (nI (e + 1))]) (rest := []) rfl rfl (Nat.zero_le _) (s_104 hI hk n (e + 1) (R ^^^ 2 ^ j) (sn S (269 + 5 * j)) t (t + 1) d s (by omega) (g.1.L hL) (g.1.D hD) (g.1.W hW) g.2.1 hx.2 hk9.1.2 (by omega) (by omega) (fun _ => by omega) (by omega) (fun h => absurd h (by omega))) (fun q hq => ?_)
          obtain ⟨s3, z, ⟨f3, hB3, h5, _⟩, rfl⟩ := hq
          have h5 := hle z (by omega) h5
          have h6 := g.2.2.2.1.or (by omega) h5
          have hzl := h5.le (by omega)
          refine gK_v ?_
          refine g_pure 1 (i' := 90) (lv' := [some (vR 8), some (vI (nI k)), some (vI (nI R)), some (vI (nI v)), some (vI (nI h)), some (vI (nI r)), some (vI (nI e)), some (vI (nI (400 + sn S 8))), some (vI (nI b)), some (vI (nI j)), some (vI (nI t)), some (vI (nI z))]) (st' := []) rfl ?_
          have f4 := g.1.tr f3.down
          have hM4 : ∀ u, u < 6 → s3 (165 + e) u = nI (F u) := fun u hu => by
            rw [f3.1 (165 + e) (by omega) (by omega) (by omega) (by omega) (by omega) (by omega)]
            exact g.2.2.1 u hu
          have h11 : s3 8 11 = s 8 11 := f3.2.2 (Nat.succ_pos _)
          refine b_104_90 (d := d + n + 1) hI (f4.L hL) (f4.D hD) (by omega) (by omega) hr (by omega) (by omega) hbl (by omega) hzl (fun h8 => ?_) (fun h8 h9 s5 e5 => ?_) (fun h8 h9 s5 e5 => ?_)
          · rw [if_pos h8] at h6
            exact ih _ _ _ _ ⟨f4, hB3, hM4, h6.eqv (fun y => ex_up), fun e0 hb9 => by rw [h11]; exact (g.2.2.2.2 e0 hb9).up⟩
          · rw [if_neg h8] at h6
            have : s5 = s3 := by rw [e5]; exact mu_same
            subst this
            exact ih _ _ _ _ ⟨f4, hB3, hM4, h6.eqv (fun y => ex_up), fun e0 => absurd e0 h9⟩
          · rw [if_neg h8] at h6
            subst e5
            refine ih _ _ _ _ ⟨f4.tr ⟨fun c c1 _ _ _ _ _ => mu_ne c1, fun f hf => mu_idx hf, fun h => by omega⟩, hB3.f11, fun u hu => by rw [mu_ne (by omega)]; exact hM4 u hu, h6.eqv (fun y => ex_up), fun _ _ => ⟨j, by omega, mu_self, ?_, fun q hq hc => ?_⟩⟩
            · rcases h5 with h5 | h5
              · omega
              · exact h5.2.1
            · rcases g.2.2.2.1 with ⟨g1, g2⟩ | ⟨g1, g2, g3⟩
              · rcases h5 with h5 | h5
                · omega
                · exact g2 z h5.1 ⟨q, hq, hc⟩
              · have := g3 z ⟨q, hq, hc⟩
                omega
    · intro _ s b z10 z11 g
      have hbl := g.2.2.2.1.le (by omega)
      refine b_104_34 (d := d + n + 1) hI (g.1.L hL) (g.1.D hD) (by omega) (by omega) hr (by omega) (by omega) hbl (by omega) (fun _ => ?_) (fun h9 => by omega) (fun h9 => by omega)
      refine ⟨s, b, ⟨g.1, g.2.1, g.2.2.2.1.eqv (fun y => ?_), fun e0 hx => ⟨n, rfl, g.2.2.2.2 e0 hx⟩⟩, rfl⟩
      rw [CH.nz hR0]
      exact ⟨fun ⟨q, hq⟩ => ⟨q, by obtain ⟨tm, g1, _⟩ := hq; exact g1.1, hq⟩, fun ⟨q, _, hq⟩ => ⟨q, hq⟩⟩
