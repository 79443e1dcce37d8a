/-! BREAD: the call of the reference (made by wip/whole/gen89u.py) -/
theorem m_bread {X : Nat × (Nat → Int32)} {d : Nat} {p : Nat → Nat} {sg : Mg} {B : Nat} {A : AS} (hI : RI B A) (hR : RM A sg) : gF X (d + 6) 294 [vR 800] p sg (mR (useA A) (useA A) (breadR A) p sg) := by
  have b0 := hI.1.b0; have b9 := hI.1.b9
  have ht := hI.2.2.2.2.2.2.1
  have h7 := hR.2.2.2.2.2.2.1
  refine g_in (cd := k_294) (nL := 5) (rc := 13) rfl (g_A (a := 800) (kd := 0) (n := 12) rfl (by decide)) (g_c1 rfl) (b_294_0 hI.1 hR.1 hI hR (fun s1 h1 hc => ?_) (fun s1 h1 hc s4 e4 => ?_))
  · have hP := clP_of hc
    have hS : s1 801 = A.S := (h1.1 801 (by decide)).trans hR.1
    have hT : ∀ i, i < A.tl → s1 805 i = A.T i := fun i hi => by rw [h1.1 805 (by decide)]; exact h7 i hi
    have h8 : ∀ c, c < 800 ∨ 900 ≤ c → s1 c = sg c := fun c hc => h1.1 c (by omega)
    have key := g_upI (P := fun v => ∀ z3 z4, gW X (d + 5) k_294 16 [some (vR 800), some (vI (nI (bset (fitB A.S A.T A.tl) v))), some (vI (nI v)), z3, z4] [] p s1 (mR (useA A) (useA A) (breadR A) p sg)) (I := fun _ => True) (n := sn A.S 0) (a := 0) (by omega) trivial ?_ ?_
    · exact key none none
    · intro v _ hv _ ih z3 z4
      have ih := ih trivial
      have bw := bset_up (P := fitB A.S A.T A.tl) (n := v) (m := 6) (by omega)
      have out : ∀ (w : Bool) (i : Nat), w = fitB A.S A.T A.tl v → gW X (d + 5) k_294 66 [some (vR 800), some (vI (nI (bset (fitB A.S A.T A.tl) v))), some (vI (nI v)), some (vI (if w = true then 1 else 0)), some (vI (nI i))] [] p s1 (mR (useA A) (useA A) (breadR A) p sg) := fun w i hw => by
        refine b_294_66 hI.1 hS (W := w = true) (by omega) (by omega) (fun h => ?_) (fun h => ?_)
        · rw [show (nI (bset (fitB A.S A.T A.tl) v) ||| 0) = nI (bset (fitB A.S A.T A.tl) (v + 1)) by rw [bs_f (P := fitB A.S A.T A.tl) (by rw [← hw]; simpa using h)]; simp]
          exact ih _ _
        · rw [nI_orbit (by omega), ← bs_t (P := fitB A.S A.T A.tl) (by rw [← hw]; exact h)]
          exact ih _ _
      refine b_294_16 hI.1 hS (by omega) (by omega) (fun h => by omega) (fun _ => ?_)
      have key := g_upI (P := fun k => ∀ w : Bool, (w = true ↔ ∀ j, j < k → bvP A.S A.T v (3 * j)) → gW X (d + 5) k_294 24 [some (vR 800), some (vI (nI (bset (fitB A.S A.T A.tl) v))), some (vI (nI v)), some (vI (if w = true then 1 else 0)), some (vI (nI (3 * k)))] [] p s1 (mR (useA A) (useA A) (breadR A) p sg)) (I := fun _ => True) (n := A.tl / 3) (a := 0) (by omega) trivial ?_ ?_
      · exact key true ⟨fun _ j hj => absurd hj (Nat.not_lt_zero _), fun _ => rfl⟩
      · intro k _ hk _ ih2 w hw
        have ih2 := ih2 trivial
        have h3 := hP.1
        have o0 := okx_at (by omega) (hP.2 (3 * k) (by omega))
        have o1 := okx_at (by omega) (hP.2 (3 * k + 1) (by omega))
        have o2 := okx_at (by omega) (hP.2 (3 * k + 2) (by omega))
        have p0 := (pgf_ok hI.1 hv o0.2).1
        have p1 := (pgf_ok hI.1 hv o1.2).1
        have er : ((nI (pgf A.S v (A.T (3 * k)).toNatClampNeg) - nI (pgf A.S v (A.T (3 * k + 1)).toNatClampNeg)) + A.S 9) - ((nI (pgf A.S v (A.T (3 * k)).toNatClampNeg) - nI (pgf A.S v (A.T (3 * k + 1)).toNatClampNeg)) + A.S 9) / A.S 9 * A.S 9 = nI (A.T (3 * k + 2)).toNatClampNeg ↔ bvP A.S A.T v (3 * k) := by
          have hm := Nat.mod_lt (pgf A.S v (A.T (3 * k)).toNatClampNeg + sn A.S 9 - pgf A.S v (A.T (3 * k + 1)).toNatClampNeg) (show 0 < sn A.S 9 by omega)
          rw [hI.1.c9, rem_ok (sn A.S 9) (by omega) _ p0 _ p1, nI_eq (by omega) (by omega)]
          exact Iff.rfl
        refine b_294_24 hI.1 hS ht h1.2.2.2.2 (W := w = true) (by omega) (by omega) (by omega) hv (fun _ => by omega) (fun _ => (hT _ (by omega)).trans o0.1) (fun _ => (hT _ (by omega)).trans o1.1) (fun _ => (hT _ (by omega)).trans o2.1) o0.2 o1.2 o2.2 (fun h => by omega) (fun _ h => out w _ ?_) (fun _ _ h => ?_) (fun _ h1 h2 => ?_) (fun _ h1 h2 => ?_)
        · rw [fitB_f (fun g => h (hw.mpr (fun j hj => g j (by omega))))]
          simpa using h
        · rw [hI.1.c9, show (0 : Int32) = nI 0 from rfl, nI_eq (by omega) (by omega)] at h
          omega
        · rw [show 3 * k + 3 = 3 * (k + 1) by omega]
          exact ih2 false ⟨fun h => (by cases h), fun g => absurd (er.mpr (g k (by omega))) h2⟩
        · rw [show 3 * k + 3 = 3 * (k + 1) by omega]
          refine ih2 true ⟨fun _ j hj => ?_, fun _ => rfl⟩
          by_cases e : j = k
          · subst e; exact er.mp h2
          · exact (hw.mp h1) j (by omega)
      · intro _ w hw
        have h3 := hP.1
        have z : 0 < sn A.S 9 := by omega
        refine b_294_24 (x := 0) (y := 0) (z := 0) hI.1 hS ht h1.2.2.2.2 (W := w = true) (by omega) (by omega) (by omega) hv (fun h => by omega) (fun h => by omega) (fun h => by omega) (fun h => by omega) z z z (fun _ => out w _ ?_) (fun h => by omega) (fun h => by omega) (fun h => by omega) (fun h => by omega)
        rw [Bool.eq_iff_iff, hw]
        exact ⟨fun g => fitB_t g, fun g => Classical.byContradiction (fun g2 => by rw [fitB_f g2] at g; cases g)⟩
    · intro _ z3 z4
      have bw := bset_up (P := fitB A.S A.T A.tl) (n := sn A.S 0) (m := 6) (by omega)
      refine b_294_16 hI.1 hS (by omega) (by omega) (fun _ => mR_v (hR.ue h1) h8 h1.2.2.1 ?_) (fun h => by omega)
      unfold breadR
      rw [if_pos hc]
  · refine mR_x ((hR.ue h1).th e4) (fun c hc => by rw [e4, up_hi hc]; exact h1.1 c (by omega)) (c := 0) (by rw [e4, mu_self]) ?_
    unfold breadR
    rw [if_neg hc]
