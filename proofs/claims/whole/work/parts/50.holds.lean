/-! A LINE OF THE LAW holds or not, on both sides (made by wip/whole/gen50.py) -/
theorem l_45 {X : Nat × (Nat → Int32)} {d : Nat} {p : Nat → Nat} {sg : Mg} {Q : am_R → Prop} {S sc : Nat → Int32} {n a N : Nat} {z z6 : Option AV} (hn : n ≤ 11) (he : a + N ≤ 400) (h11 : sg 211 n = nI (a + N)) (h12 : ∀ i, a ≤ i → i < a + N → sg 212 i = cdOf (S (758 + 2 * i)) (S (759 + 2 * i))) (h1 : ∀ i, i < 10 → sg 201 i = sc i) (hsc : ∀ i, i = 8 ∨ i = 9 → sc i = 0 ∨ sc i = 1) (hw : WT S a N)
    (x : ∀ f, Q (gRv p (va_up sg 213 f) (if hld S sc a N = true then 1 else 0))) :
    gW X (d + 1) k_45 15 [some (vR 208), some (vI (nI n)), some (vR 201), z, some (vI (nI 0)), some (vI (nI a)), z6] [] p sg Q := by
  have key := g_upI (P := fun k => ∀ f z6, (∀ j, j < (evS S sc a k).1 → f j = (evS S sc a k).2 j) → gW X (d + 1) k_45 15 [some (vR 208), some (vI (nI n)), some (vR 201), z, some (vI (nI (evS S sc a k).1)), some (vI (nI (a + k))), z6] [] p (va_up sg 213 f) Q) (I := fun _ => True) (n := N) (a := 0) (by omega) trivial ?_ ?_
  · have h := key (sg 213) z6 (fun j hj => absurd hj (Nat.not_lt_zero _))
    rw [va_up_same] at h
    exact h
  · intro k _ hk _ ih f z6 hf
    have ih := ih trivial
    obtain ⟨t1, t2, t3⟩ := ev_ty hw.1 hsc k (by omega)
    obtain ⟨w1, w2, w3, w4, w5⟩ := hw.1 k hk
    have hc := (h12 (a + k) (by omega) (by omega)).trans (cd_of w1 w2)
    have g11 : (va_up sg 213 f) 211 n = nI (a + N) := by rw [va_up_ne _ _ (by decide)]; exact h11
    have g12 : (va_up sg 213 f) 212 (a + k) = sg 212 (a + k) := by rw [va_up_ne _ _ (by decide)]
    have g1 : ∀ i, (va_up sg 213 f) 201 i = sg 201 i := fun i => by rw [va_up_ne _ _ (by decide)]
    have g3 : ∀ i, (va_up sg 213 f) 213 i = f i := fun i => by rw [va_up_self]
    rw [show evS S sc a (k + 1) = evM S sc (a + k) (evS S sc a k) from rfl] at ih
    unfold evM at ih
    generalize evS S sc a k = c at t1 t3 hf ih ⊢
    generalize tyS S a k = t at t1 t2 t3 w3 w4 w5
    have w1b := w1.2
    generalize hs : sn S (758 + 2 * (a + k)) = s at w1b w2 w3 w4 w5 hc ih
    by_cases c1 : s ≤ 10
    · simp only [if_pos c1] at ih
      by_cases c2 : s = 10
      · rw [if_pos c2] at hc
        have hv := (w2 c2).2
        refine b_45_to hn (by omega) (by omega) (show a + k < a + N by omega) he (show sn S (759 + 2 * (a + k)) ≤ 999 by omega) (by have := w3 c1; omega) g11 (g12.trans hc) (fun s7 e7 => ?_)
        rw [e7, mu_va, show a + k + 1 = a + (k + 1) by omega]
        refine ih _ _ (fun j hj => ?_)
        by_cases e : j = c.1
        · subst e; rw [upd_self, upd_self, if_pos c2]; exact (w2 c2).1.symm
        · rw [upd_ne e, upd_ne e]; exact hf j (by omega)
      · rw [if_neg c2, if_pos (by omega)] at hc
        refine b_45_sc hn (by omega) (by omega) (show a + k < a + N by omega) he (show s ≤ 9 by omega) (by have := w3 c1; omega) g11 (g12.trans hc) (fun s7 e7 => ?_)
        rw [e7, mu_va, show a + k + 1 = a + (k + 1) by omega]
        refine ih _ _ (fun j hj => ?_)
        by_cases e : j = c.1
        · subst e; rw [upd_self, upd_self, if_neg c2, g1, h1 s (by omega)]
        · rw [upd_ne e, upd_ne e]; exact hf j (by omega)
    · simp only [if_neg c1] at ih
      rw [if_neg (by omega), if_neg (by omega)] at hc
      by_cases c2 : s = 14
      · simp only [if_pos c2] at ih
        rw [if_pos c2] at hc
        have h4 := w4 c2
        refine b_45_no hn (by omega) (by omega) (show a + k < a + N by omega) he (by omega) g11 (g12.trans hc) (fun s7 e7 => ?_)
        rw [e7, mu_va, g3, show a + k + 1 = a + (k + 1) by omega]
        refine ih _ _ (fun j hj => ?_)
        by_cases e : j = c.1 - 1
        · subst e; rw [upd_self, upd_self, hf _ hj]
        · rw [upd_ne e, upd_ne e]; exact hf j hj
      · simp only [if_neg c2] at ih
        rw [if_neg c2] at hc
        have h5 := w5 (by omega) c2
        have hsx : s = 11 ∨ s = 12 ∨ s = 13 ∨ s = 15 ∨ s = 16 := by omega
        refine b_45_bi (c := if s = 15 then 1014 else if s = 16 then 1015 else 1000 + s) hn (by omega) (by omega) (show a + k < a + N by omega) he (by split; omega; split <;> omega) (by split; omega; split <;> omega) (by omega) g11 (g12.trans hc) (fun s7 e7 => ?_)
        rw [e7, mu_va, g3, g3, show a + k + 1 = a + (k + 1) by omega]
        refine ih _ _ (fun j hj => ?_)
        by_cases e : j = c.1 - 1 - 1
        · subst e
          rw [upd_self, upd_self, hf _ (by omega), hf _ (by omega), ← jnd_op hsx (fun h15 => ⟨t3 _ (by omega) (by rw [t1]; exact (h5.2 h15).2), t3 _ (by omega) (by rw [t1]; exact (h5.2 h15).1)⟩)]
          congr 1
          split
          · rfl
          · split <;> rfl
        · rw [upd_ne e, upd_ne e]; exact hf j (by omega)
  · intro _ f z6 hf
    obtain ⟨t1, t2, t3⟩ := ev_ty hw.1 hsc N (Nat.le_refl _)
    have x := x f
    refine b_45_end hn (by omega) (by omega) (by rw [va_up_ne _ _ (by decide)]; exact h11) ?_ ?_ ?_
    · intro h0
      rw [show hld S sc a N = true from decide_eq_true (Or.inl h0), if_pos rfl] at x
      exact x
    · intro h0 hz
      rw [va_up_self, hf 0 (by omega)] at hz
      rw [show hld S sc a N = false from decide_eq_false (fun h => h.elim h0 (fun h1 => by rw [hz] at h1; exact absurd h1 (by decide)))] at x
      exact x
    · intro h0 hz
      rw [va_up_self, hf 0 (by omega)] at hz
      have h2 := hw.2
      have h3 : (evS S sc a N).2 0 = 1 := by
        rcases t3 0 (by omega) (by rcases h2 with h | h; omega; exact h.2) with h | h
        · exact absurd h hz
        · exact h
      rw [show hld S sc a N = true from decide_eq_true (Or.inr h3), if_pos rfl] at x
      exact x

theorem l_250 {X : Nat × (Nat → Int32)} {d : Nat} {p : Nat → Nat} {sg : Mg} {B : Nat} {S : Nat → Int32} (hI : Inv B S) (hS : sg 801 = S) {Q : am_R → Prop} {sc : Nat → Int32} {k v t n a N : Nat} {z z8 z9 z10 z11 : Option AV} (hk : k < sn S 1) (hv : v < sn S 0) (ht : t ≤ 200600) (hn : n ≤ 11) (he : a + N ≤ 400) (h11 : S (710 + 4 * n + 3) = nI (a + N)) (hsc : ∀ i, i = 8 ∨ i = 9 → sc i = 0 ∨ sc i = 1) (hs9 : ∀ i, i < 10 → scf S k v t i = sc i) (hw : WT S a N)
    (x : ∀ f, Q (gRv p (va_up sg 807 f) (if hld S sc a N = true then 1 else 0))) :
    gW X (d + 4) k_250 15 [some (vR 800), z, some (vI (nI k)), some (vI (nI v)), some (vI (nI t)), some (vI (nI 0)), some (vI (nI (710 + 4 * n))), some (vI (nI a)), z8, z9, z10, z11] [] p sg Q := by
  have b0 := hI.b0; have b1 := hI.b1
  have key := g_upI (P := fun i => ∀ f z8 z9 z10 z11, (∀ j, j < (evS S sc a i).1 → f j = (evS S sc a i).2 j) → gW X (d + 4) k_250 15 [some (vR 800), z, some (vI (nI k)), some (vI (nI v)), some (vI (nI t)), some (vI (nI (evS S sc a i).1)), some (vI (nI (710 + 4 * n))), some (vI (nI (a + i))), z8, z9, z10, z11] [] p (va_up sg 807 f) Q) (I := fun _ => True) (n := N) (a := 0) (by omega) trivial ?_ ?_
  · have h := key (sg 807) z8 z9 z10 z11 (fun j hj => absurd hj (Nat.not_lt_zero _))
    rw [va_up_same] at h
    exact h
  · intro i _ hi _ ih f z8 z9 z10 z11 hf
    have ih := ih trivial
    obtain ⟨t1, t2, t3⟩ := ev_ty hw.1 hsc i (by omega)
    obtain ⟨w1, w2, w3, w4, w5⟩ := hw.1 i hi
    have hS2 : (va_up sg 807 f) 801 = S := by rw [va_up_ne _ _ (by decide)]; exact hS
    have g3 : ∀ i, (va_up sg 807 f) 807 i = f i := fun i => by rw [va_up_self]
    rw [show evS S sc a (i + 1) = evM S sc (a + i) (evS S sc a i) from rfl] at ih
    unfold evM at ih
    generalize evS S sc a i = c at t1 t3 hf ih ⊢
    generalize tyS S a i = ty at t1 t2 t3 w3 w4 w5
    have hc := w1.1
    have w1b := w1.2
    generalize hs : sn S (758 + 2 * (a + i)) = s at w1b w2 w3 w4 w5 hc ih
    by_cases c1 : s ≤ 10
    · simp only [if_pos c1] at ih
      refine b_250_pu hI hS2 (by omega) (by omega) ht (by omega) (by omega) (by omega) hk hv (show a + i < a + N by omega) he c1 (by have := w3 c1; omega) h11 hc (fun s7 e7 => ?_)
      rw [e7, mu_va, show a + i + 1 = a + (i + 1) by omega]
      refine ih _ _ _ _ _ (fun j hj => ?_)
      by_cases e : j = c.1
      · subst e
        rw [upd_self, upd_self]
        by_cases c2 : s = 10
        · rw [if_pos c2, if_pos c2]
        · rw [if_neg c2, if_neg c2, hs9 s (by omega)]
      · rw [upd_ne e, upd_ne e]; exact hf j (by omega)
    · simp only [if_neg c1] at ih
      by_cases c2 : s = 14
      · simp only [if_pos c2] at ih
        have h4 := w4 c2
        rw [c2] at hc
        refine b_250_no hI hS2 (by omega) (by omega) ht (by omega) (by omega) (by omega) hk hv (show a + i < a + N by omega) he (by omega) h11 hc (fun s7 e7 => ?_)
        rw [e7, mu_va, g3, show a + i + 1 = a + (i + 1) by omega]
        refine ih _ _ _ _ _ (fun j hj => ?_)
        by_cases e : j = c.1 - 1
        · subst e; rw [upd_self, upd_self, hf _ hj]
        · rw [upd_ne e, upd_ne e]; exact hf j hj
      · simp only [if_neg c2] at ih
        have h5 := w5 (by omega) c2
        have fa := hf (c.1 - 1 - 1) (by omega)
        have fb := hf (c.1 - 1) (by omega)
        have fin : ∀ v9 z8 z9 z10 z11, v9 = opR s (c.2 (c.1 - 1 - 1)) (c.2 (c.1 - 1)) → gW X (d + 4) k_250 15 [some (vR 800), z, some (vI (nI k)), some (vI (nI v)), some (vI (nI t)), some (vI (nI (c.1 - 1))), some (vI (nI (710 + 4 * n))), some (vI (nI (a + i + 1))), z8, z9, z10, z11] [] p (mu (va_up sg 807 f) 807 (c.1 - 1 - 1) v9) Q := by
          intro v9 z8 z9 z10 z11 hv9
          rw [mu_va, show a + i + 1 = a + (i + 1) by omega]
          refine ih _ _ _ _ _ (fun j hj => ?_)
          by_cases e : j = c.1 - 1 - 1
          · subst e; rw [upd_self, upd_self, hv9]
          · rw [upd_ne e, upd_ne e]; exact hf j (by omega)
        rcases (show s = 11 ∨ s = 12 ∨ s = 13 ∨ s = 15 ∨ s = 16 by omega) with rfl | rfl | rfl | rfl | rfl
        · refine b_250_b11 hI hS2 (by omega) (by omega) ht (by omega) (by omega) (by omega) hk hv (show a + i < a + N by omega) he (by omega) h11 hc (fun h s7 e7 => ?_) (fun h s7 e7 => ?_)
          · rw [e7]; exact fin _ _ _ _ _ (by rw [g3, g3, fa, fb]; rfl)
          · rw [e7]; exact fin _ _ _ _ _ (by rw [g3, g3, fa, fb]; rfl)
        · refine b_250_b12 hI hS2 (by omega) (by omega) ht (by omega) (by omega) (by omega) hk hv (show a + i < a + N by omega) he (by omega) h11 hc (fun h s7 e7 => ?_) (fun h s7 e7 => ?_)
          · rw [e7]; rw [g3, g3, fa, fb] at h; exact fin _ _ _ _ _ (if_neg (Int32.not_lt.mpr h)).symm
          · rw [e7]; rw [g3, g3, fa, fb] at h; exact fin _ _ _ _ _ (if_pos (Int32.not_le.mp h)).symm
        · refine b_250_b13 hI hS2 (by omega) (by omega) ht (by omega) (by omega) (by omega) hk hv (show a + i < a + N by omega) he (by omega) h11 hc (fun h s7 e7 => ?_) (fun h s7 e7 => ?_)
          · rw [e7]; rw [g3, g3, fa, fb] at h; exact fin _ _ _ _ _ (if_neg (Int32.not_lt.mpr h)).symm
          · rw [e7]; rw [g3, g3, fa, fb] at h; exact fin _ _ _ _ _ (if_pos (Int32.not_le.mp h)).symm
        · refine b_250_b15 hI hS2 (by omega) (by omega) ht (by omega) (by omega) (by omega) hk hv (show a + i < a + N by omega) he (by omega) h11 hc (fun h s7 e7 => ?_) (fun h s7 e7 => ?_)
          · rw [e7]; rw [g3, g3, fa, fb] at h; exact fin _ _ _ _ _ (if_neg h).symm
          · rw [e7]; rw [g3, g3, fa, fb] at h; exact fin _ _ _ _ _ (if_pos h).symm
        · refine b_250_b16 hI hS2 (by omega) (by omega) ht (by omega) (by omega) (by omega) hk hv (show a + i < a + N by omega) he (by omega) h11 hc (fun h s7 e7 => ?_) (fun h s7 e7 => ?_)
          · rw [e7]; rw [g3, g3, fa, fb] at h; exact fin _ _ _ _ _ (if_neg (Int32.not_lt.mpr h)).symm
          · rw [e7]; rw [g3, g3, fa, fb] at h; exact fin _ _ _ _ _ (if_pos (Int32.not_le.mp h)).symm
  · intro _ f z8 z9 z10 z11 hf
    obtain ⟨t1, t2, t3⟩ := ev_ty hw.1 hsc N (Nat.le_refl _)
    have x := x f
    have hS2 : (va_up sg 807 f) 801 = S := by rw [va_up_ne _ _ (by decide)]; exact hS
    refine b_250_end hI hS2 (by omega) (by omega) ht (by omega) (by omega) (by omega) hk hv h11 ?_ ?_ ?_
    · intro h0
      rw [show hld S sc a N = true from decide_eq_true (Or.inl h0), if_pos rfl] at x
      exact x
    · intro h0 hz
      rw [va_up_self, hf 0 (by omega)] at hz
      rw [show hld S sc a N = false from decide_eq_false (fun h => h.elim h0 hz)] at x
      exact x
    · intro h0 hz
      rw [va_up_self, hf 0 (by omega)] at hz
      rw [show hld S sc a N = true from decide_eq_true (Or.inr hz), if_pos rfl] at x
      exact x
