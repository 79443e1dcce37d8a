/-! ONE COMES TO KNOW A FACT (made by wip/whole/gen47.py) -/
/-- a row more in the log -/
def rcS (S : Nat → Int32) (k f b : Nat) (i : Nat) : Int32 := if i = 14 then nI (min 100 (sn S 14 + 1)) else if i = 309 then S 8 else if i = 310 then nI k else if i = 311 then nI f else if i = 312 then nI b else if 313 ≤ i ∧ i < 709 then S (i - 4) else S i
theorem rcS_ne {S : Nat → Int32} {k f b i : Nat} (h : i ≠ 14 ∧ (i < 309 ∨ 709 ≤ i)) : rcS S k f b i = S i := by
  unfold rcS
  rw [if_neg h.1, if_neg (by omega), if_neg (by omega), if_neg (by omega), if_neg (by omega), if_neg (by omega)]
theorem rcS_14 {S : Nat → Int32} {k f b : Nat} : rcS S k f b 14 = nI (min 100 (sn S 14 + 1)) := if_pos rfl
theorem rcS_s14 {S : Nat → Int32} {k f b : Nat} : sn (rcS S k f b) 14 = min 100 (sn S 14 + 1) := by
  unfold sn
  rw [rcS_14, nI_clamp (by have := Nat.min_le_left 100 ((S 14).toNatClampNeg + 1); omega)]
  rfl
theorem rcS_log {S : Nat → Int32} {k f b i j : Nat} (hi : i < 99) (hj : j < 4) : rcS S k f b (309 + 4 * (i + 1) + j) = S (309 + 4 * i + j) := by
  unfold rcS
  rw [if_neg (by omega), if_neg (by omega), if_neg (by omega), if_neg (by omega), if_neg (by omega), if_pos (by omega)]
  congr 1
  omega
theorem Inv.rc {B : Nat} {S : Nat → Int32} (hI : Inv B S) {k f b : Nat} : Inv B (rcS S k f b) := by
  have b14 := hI.b14
  have h1 : Inv B (upd S 14 (nI (min 100 (sn S 14 + 1)))) := by
    have he : ∀ i, i ≠ 14 → upd S 14 (nI (min 100 (sn S 14 + 1))) i = S i := fun i h => upd_ne h
    refine ⟨?_, InvT.ext hI (fun i h => he i (by omega)), InvP.ext hI (fun i h => he i (by omega)), InvF.ext hI (fun i h => he i (by omega)), InvR.ext hI (fun i h => he i (by omega)), InvD.ext hI (fun i h => he i (by omega)), InvK.ext hI (fun i h => he i (by omega))⟩
    have hc := hI.1
    unfold InvC at hc ⊢
    rw [isN_upd (by decide), isN_upd (by decide), isN_upd (by decide), isN_upd (by decide), isN_upd (by decide), isN_upd (by decide), isN_upd (by decide), isN_upd (by decide), isN_upd (by decide), isN_upd (by decide), sn_upd (by decide)]
    exact ⟨hc.1, hc.2.1, hc.2.2.1, hc.2.2.2.1, hc.2.2.2.2.1, hc.2.2.2.2.2.1, hc.2.2.2.2.2.2.1, hc.2.2.2.2.2.2.2.1, hc.2.2.2.2.2.2.2.2.1, hc.2.2.2.2.2.2.2.2.2.1, isN_self (by have := Nat.min_le_left 100 (sn S 14 + 1); omega) (by decide)⟩
  refine h1.ext (fun i hi => ?_)
  unfold freeI at hi
  by_cases h14 : i = 14
  · subst h14; rw [rcS_14, upd_self]
  · rw [rcS_ne (by omega), upd_ne h14]
/-- .. and knows it, if it is new -/
def lrS (S : Nat → Int32) (k f b : Nat) : Nat → Int32 := if (sn S (113 + 6 * k + 5)).testBit f then S else rcS (upd S (113 + 6 * k + 5) (nI (sn S (113 + 6 * k + 5) ||| 2 ^ f))) k f b
theorem Inv.lr {B : Nat} {S : Nat → Int32} (hI : Inv B S) {k f b : Nat} (hk : k < sn S 1) (hf : f ≤ 7) : Inv B (lrS S k f b) := by
  unfold lrS
  split
  · exact hI
  · refine (hI.per1 hk (Or.inr (Or.inr ⟨rfl, ?_⟩))).rc
    exact or_lt (n := 8) (hI.per hk).2.2.2.2 (pow_lt2 (by omega))

theorem b_59_0 {X : Nat × (Nat → Int32)} {d : Nat} {p : Nat → Nat} {sg : Mg} {Q : am_R → Prop} {n : Nat} (u_n : n ≤ 100) (kn_250_11 : sg 250 11 = nI n) {k : Nat} {f : Nat} {b : Nat} (u_k : k ≤ 7) (u_f : f ≤ 7) (u_b : b ≤ 9)
    (o1 : (¬ n = 100) → ∀ s2 : Mg, s2 = mu sg 261 (4 * n) (sg 250 12) → ∀ s3 : Mg, s3 = mu s2 261 (4 * n + 1) (nI k) → ∀ s4 : Mg, s4 = mu s3 261 (4 * n + 2) (nI f) → ∀ s5 : Mg, s5 = mu s4 261 (4 * n + 3) (nI b) → ∀ s6 : Mg, s6 = mu s5 250 11 (nI (n + 1)) → Q (gR0 p s6))
    (o2 : (n = 100) → ∀ s7 : Mg, s7 = va_up sg 261 (va_cpy (sg 261) (sg 261) 4 0 396) → ∀ s8 : Mg, s8 = mu s7 250 11 (nI (n - 1)) → ∀ s9 : Mg, s9 = mu s8 261 (4 * (n - 1)) (s8 250 12) → ∀ s10 : Mg, s10 = mu s9 261 (4 * (n - 1) + 1) (nI k) → ∀ s11 : Mg, s11 = mu s10 261 (4 * (n - 1) + 2) (nI f) → ∀ s12 : Mg, s12 = mu s11 261 (4 * (n - 1) + 3) (nI b) → ∀ s13 : Mg, s13 = mu s12 250 11 (nI ((n - 1) + 1)) → Q (gR0 p s13)) :
    gW X (d) k_59 0 [some (vR 250), some (vI (nI k)), some (vI (nI f)), some (vI (nI b)), none] [] p sg Q := by
  refine g_pure 1 (i' := 1) (lv' := [some (vR 250), some (vI (nI k)), some (vI (nI f)), some (vI (nI b)), none]) (st' := [vR 250]) rfl ?_
  refine g_getI rfl (g_A (a := 250) (kd := 0) (n := 6) rfl (by decide)) (show _ = nI n from kn_250_11) ?_
  refine g_pure 1 (i' := 3) (lv' := [some (vR 250), some (vI (nI k)), some (vI (nI f)), some (vI (nI b)), none]) (st' := [vI 100, vI (nI n)]) rfl ?_
  refine g_if2 (i' := 22) (P := ¬ n = 100) rfl rfl (g_neN (show nI n = nI n from (rfl : nI n = nI n)) (show 100 = nI 100 from (show (100 : Int32) = nI 100 from rfl)) (by omega) (by omega)) (fun h1 => ?_) (fun h1 => ?_)
  · refine g_pure 1 (i' := 23) (lv' := [some (vR 250), some (vI (nI k)), some (vI (nI f)), some (vI (nI b)), none]) (st' := [vR 250]) rfl ?_
    refine g_getI rfl (g_A (a := 250) (kd := 0) (n := 6) rfl (by decide)) (show _ = nI n from kn_250_11) ?_
    refine g_pure 8 (i' := 32) (lv' := [some (vR 250), some (vI (nI k)), some (vI (nI f)), some (vI (nI b)), some (vI (nI n * 4))]) (st' := [vI (sg 250 12), vI (nI n * 4), vR 261]) rfl ?_
    refine gW_eq (lv' := [some (vR 250), some (vI (nI k)), some (vI (nI f)), some (vI (nI b)), some (vI (nI (4 * n)))]) (st' := [vI (sg 250 12), vI (nI (4 * n)), vR 261]) (by rw [(show (nI n * 4) = nI (4 * n) from ((g_mul (rfl : nI n = nI n) (show (4 : Int32) = nI 4 from rfl))).trans (congrArg nI (by omega)))]) (by rw [(show (nI n * 4) = nI (4 * n) from ((g_mul (rfl : nI n = nI n) (show (4 : Int32) = nI 4 from rfl))).trans (congrArg nI (by omega)))]) rfl ?_
    refine g_ast rfl (g_A (a := 261) (kd := 1) (n := 400) rfl (by decide)) (by decide) (show nI (4 * n) = nI (4 * n) from (rfl : nI (4 * n) = nI (4 * n))) (by omega) ?_
    refine g_setv (fun s2 es2 => ?_)
    have kns2_250_11 : s2 250 11 = nI n := by rw [es2, mu_ne (by decide)]; exact kn_250_11
    refine g_pure 6 (i' := 39) (lv' := [some (vR 250), some (vI (nI k)), some (vI (nI f)), some (vI (nI b)), some (vI (nI (4 * n)))]) (st' := [vI (nI k), vI (nI (4 * n) + 1), vR 261]) rfl ?_
    refine gW_eq (lv' := [some (vR 250), some (vI (nI k)), some (vI (nI f)), some (vI (nI b)), some (vI (nI (4 * n)))]) (st' := [vI (nI k), vI (nI (4 * n + 1)), vR 261]) rfl (by rw [(show (nI (4 * n) + 1) = nI (4 * n + 1) from ((g_add (rfl : nI (4 * n) = nI (4 * n)) (show (1 : Int32) = nI 1 from rfl))).trans (congrArg nI (by omega)))]) rfl ?_
    refine g_ast rfl (g_A (a := 261) (kd := 1) (n := 400) rfl (by decide)) (by decide) (show nI (4 * n + 1) = nI (4 * n + 1) from (rfl : nI (4 * n + 1) = nI (4 * n + 1))) (by omega) ?_
    refine g_setv (fun s3 es3 => ?_)
    have kns3_250_11 : s3 250 11 = nI n := by rw [es3, mu_ne (by decide)]; exact kns2_250_11
    refine g_pure 6 (i' := 46) (lv' := [some (vR 250), some (vI (nI k)), some (vI (nI f)), some (vI (nI b)), some (vI (nI (4 * n)))]) (st' := [vI (nI f), vI (nI (4 * n) + 2), vR 261]) rfl ?_
    refine gW_eq (lv' := [some (vR 250), some (vI (nI k)), some (vI (nI f)), some (vI (nI b)), some (vI (nI (4 * n)))]) (st' := [vI (nI f), vI (nI (4 * n + 2)), vR 261]) rfl (by rw [(show (nI (4 * n) + 2) = nI (4 * n + 2) from ((g_add (rfl : nI (4 * n) = nI (4 * n)) (show (2 : Int32) = nI 2 from rfl))).trans (congrArg nI (by omega)))]) rfl ?_
    refine g_ast rfl (g_A (a := 261) (kd := 1) (n := 400) rfl (by decide)) (by decide) (show nI (4 * n + 2) = nI (4 * n + 2) from (rfl : nI (4 * n + 2) = nI (4 * n + 2))) (by omega) ?_
    refine g_setv (fun s4 es4 => ?_)
    have kns4_250_11 : s4 250 11 = nI n := by rw [es4, mu_ne (by decide)]; exact kns3_250_11
    refine g_pure 6 (i' := 53) (lv' := [some (vR 250), some (vI (nI k)), some (vI (nI f)), some (vI (nI b)), some (vI (nI (4 * n)))]) (st' := [vI (nI b), vI (nI (4 * n) + 3), vR 261]) rfl ?_
    refine gW_eq (lv' := [some (vR 250), some (vI (nI k)), some (vI (nI f)), some (vI (nI b)), some (vI (nI (4 * n)))]) (st' := [vI (nI b), vI (nI (4 * n + 3)), vR 261]) rfl (by rw [(show (nI (4 * n) + 3) = nI (4 * n + 3) from ((g_add (rfl : nI (4 * n) = nI (4 * n)) (show (3 : Int32) = nI 3 from rfl))).trans (congrArg nI (by omega)))]) rfl ?_
    refine g_ast rfl (g_A (a := 261) (kd := 1) (n := 400) rfl (by decide)) (by decide) (show nI (4 * n + 3) = nI (4 * n + 3) from (rfl : nI (4 * n + 3) = nI (4 * n + 3))) (by omega) ?_
    refine g_setv (fun s5 es5 => ?_)
    have kns5_250_11 : s5 250 11 = nI n := by rw [es5, mu_ne (by decide)]; exact kns4_250_11
    refine g_pure 2 (i' := 56) (lv' := [some (vR 250), some (vI (nI k)), some (vI (nI f)), some (vI (nI b)), some (vI (nI (4 * n)))]) (st' := [vR 250, vR 250]) rfl ?_
    refine g_getI rfl (g_A (a := 250) (kd := 0) (n := 6) rfl (by decide)) (show _ = nI n from kns5_250_11) ?_
    refine g_pure 2 (i' := 59) (lv' := [some (vR 250), some (vI (nI k)), some (vI (nI f)), some (vI (nI b)), some (vI (nI (4 * n)))]) (st' := [vI (nI n + 1), vR 250]) rfl ?_
    refine gW_eq (lv' := [some (vR 250), some (vI (nI k)), some (vI (nI f)), some (vI (nI b)), some (vI (nI (4 * n)))]) (st' := [vI (nI (n + 1)), vR 250]) rfl (by rw [(show (nI n + 1) = nI (n + 1) from ((g_add (rfl : nI n = nI n) (show (1 : Int32) = nI 1 from rfl))).trans (congrArg nI (by omega)))]) rfl ?_
    refine g_putI rfl (g_A (a := 250) (kd := 0) (n := 6) rfl (by decide)) ?_
    refine g_setv (fun s6 es6 => ?_)
    have kns6_250_11 : s6 250 11 = nI (n + 1) := by rw [es6]; exact mu_self.trans ((rfl : nI (n + 1) = nI (n + 1)))
    refine g_vret rfl ?_
    exact o1 h1 s2 es2 s3 es3 s4 es4 s5 es5 s6 es6
  · have h1 := Classical.not_not.mp h1
    refine g_pure 8 (i' := 12) (lv' := [some (vR 250), some (vI (nI k)), some (vI (nI f)), some (vI (nI b)), none]) (st' := [vR 261, vI 0, vR 261, vI 4, vR 261]) rfl ?_
    refine g_len rfl (by decide) (by decide) (g_A (a := 261) (kd := 1) (n := 400) rfl (by decide)) ?_
    refine g_pure 2 (i' := 15) (lv' := [some (vR 250), some (vI (nI k)), some (vI (nI f)), some (vI (nI b)), none]) (st' := [vI (nI 400 - 4), vI 0, vR 261, vI 4, vR 261]) rfl ?_
    refine gW_eq (lv' := [some (vR 250), some (vI (nI k)), some (vI (nI f)), some (vI (nI b)), none]) (st' := [vI 396, vI 0, vR 261, vI 4, vR 261]) rfl (by rw [(show ((nI 400 - 4) : Int32) = 396 from rfl)]) rfl ?_
    refine g_copy (s0 := 4) (d0 := 0) (n := 396) rfl (g_A (a := 261) (kd := 1) (n := 400) rfl (by decide)) (g_A (a := 261) (kd := 1) (n := 400) rfl (by decide)) (show 4 = nI 4 from (show (4 : Int32) = nI 4 from rfl)) (show 0 = nI 0 from (show (0 : Int32) = nI 0 from rfl)) (show 396 = nI 396 from (show (396 : Int32) = nI 396 from rfl)) (by omega) (by omega) (by omega) (by omega) rfl ?_
    refine g_setv' (fun s7 es7 => ?_)
    have kns7_250_11 : s7 250 11 = nI n := by rw [es7, va_up_ne _ _ (by decide)]; exact kn_250_11
    refine g_pure 2 (i' := 18) (lv' := [some (vR 250), some (vI (nI k)), some (vI (nI f)), some (vI (nI b)), none]) (st' := [vR 250, vR 250]) rfl ?_
    refine g_getI rfl (g_A (a := 250) (kd := 0) (n := 6) rfl (by decide)) (show _ = nI n from kns7_250_11) ?_
    refine g_pure 2 (i' := 21) (lv' := [some (vR 250), some (vI (nI k)), some (vI (nI f)), some (vI (nI b)), none]) (st' := [vI (nI n - 1), vR 250]) rfl ?_
    refine gW_eq (lv' := [some (vR 250), some (vI (nI k)), some (vI (nI f)), some (vI (nI b)), none]) (st' := [vI (nI (n - 1)), vR 250]) rfl (by rw [(show (nI n - 1) = nI (n - 1) from (g_sub (rfl : nI n = nI n) (show (1 : Int32) = nI 1 from rfl) (by omega)))]) rfl ?_
    refine g_putI rfl (g_A (a := 250) (kd := 0) (n := 6) rfl (by decide)) ?_
    refine g_setv (fun s8 es8 => ?_)
    have kns8_250_11 : s8 250 11 = nI (n - 1) := by rw [es8]; exact mu_self.trans ((rfl : nI (n - 1) = nI (n - 1)))
    refine g_pure 1 (i' := 23) (lv' := [some (vR 250), some (vI (nI k)), some (vI (nI f)), some (vI (nI b)), none]) (st' := [vR 250]) rfl ?_
    refine g_getI rfl (g_A (a := 250) (kd := 0) (n := 6) rfl (by decide)) (show _ = nI (n - 1) from kns8_250_11) ?_
    refine g_pure 8 (i' := 32) (lv' := [some (vR 250), some (vI (nI k)), some (vI (nI f)), some (vI (nI b)), some (vI (nI (n - 1) * 4))]) (st' := [vI (s8 250 12), vI (nI (n - 1) * 4), vR 261]) rfl ?_
    refine gW_eq (lv' := [some (vR 250), some (vI (nI k)), some (vI (nI f)), some (vI (nI b)), some (vI (nI (4 * (n - 1))))]) (st' := [vI (s8 250 12), vI (nI (4 * (n - 1))), vR 261]) (by rw [(show (nI (n - 1) * 4) = nI (4 * (n - 1)) from ((g_mul (rfl : nI (n - 1) = nI (n - 1)) (show (4 : Int32) = nI 4 from rfl))).trans (congrArg nI (by omega)))]) (by rw [(show (nI (n - 1) * 4) = nI (4 * (n - 1)) from ((g_mul (rfl : nI (n - 1) = nI (n - 1)) (show (4 : Int32) = nI 4 from rfl))).trans (congrArg nI (by omega)))]) rfl ?_
    refine g_ast rfl (g_A (a := 261) (kd := 1) (n := 400) rfl (by decide)) (by decide) (show nI (4 * (n - 1)) = nI (4 * (n - 1)) from (rfl : nI (4 * (n - 1)) = nI (4 * (n - 1)))) (by omega) ?_
    refine g_setv (fun s9 es9 => ?_)
    have kns9_250_11 : s9 250 11 = nI (n - 1) := by rw [es9, mu_ne (by decide)]; exact kns8_250_11
    refine g_pure 6 (i' := 39) (lv' := [some (vR 250), some (vI (nI k)), some (vI (nI f)), some (vI (nI b)), some (vI (nI (4 * (n - 1))))]) (st' := [vI (nI k), vI (nI (4 * (n - 1)) + 1), vR 261]) rfl ?_
    refine gW_eq (lv' := [some (vR 250), some (vI (nI k)), some (vI (nI f)), some (vI (nI b)), some (vI (nI (4 * (n - 1))))]) (st' := [vI (nI k), vI (nI (4 * (n - 1) + 1)), vR 261]) rfl (by rw [(show (nI (4 * (n - 1)) + 1) = nI (4 * (n - 1) + 1) from ((g_add (rfl : nI (4 * (n - 1)) = nI (4 * (n - 1))) (show (1 : Int32) = nI 1 from rfl))).trans (congrArg nI (by omega)))]) rfl ?_
    refine g_ast rfl (g_A (a := 261) (kd := 1) (n := 400) rfl (by decide)) (by decide) (show nI (4 * (n - 1) + 1) = nI (4 * (n - 1) + 1) from (rfl : nI (4 * (n - 1) + 1) = nI (4 * (n - 1) + 1))) (by omega) ?_
    refine g_setv (fun s10 es10 => ?_)
    have kns10_250_11 : s10 250 11 = nI (n - 1) := by rw [es10, mu_ne (by decide)]; exact kns9_250_11
    refine g_pure 6 (i' := 46) (lv' := [some (vR 250), some (vI (nI k)), some (vI (nI f)), some (vI (nI b)), some (vI (nI (4 * (n - 1))))]) (st' := [vI (nI f), vI (nI (4 * (n - 1)) + 2), vR 261]) rfl ?_
    refine gW_eq (lv' := [some (vR 250), some (vI (nI k)), some (vI (nI f)), some (vI (nI b)), some (vI (nI (4 * (n - 1))))]) (st' := [vI (nI f), vI (nI (4 * (n - 1) + 2)), vR 261]) rfl (by rw [(show (nI (4 * (n - 1)) + 2) = nI (4 * (n - 1) + 2) from ((g_add (rfl : nI (4 * (n - 1)) = nI (4 * (n - 1))) (show (2 : Int32) = nI 2 from rfl))).trans (congrArg nI (by omega)))]) rfl ?_
    refine g_ast rfl (g_A (a := 261) (kd := 1) (n := 400) rfl (by decide)) (by decide) (show nI (4 * (n - 1) + 2) = nI (4 * (n - 1) + 2) from (rfl : nI (4 * (n - 1) + 2) = nI (4 * (n - 1) + 2))) (by omega) ?_
    refine g_setv (fun s11 es11 => ?_)
    have kns11_250_11 : s11 250 11 = nI (n - 1) := by rw [es11, mu_ne (by decide)]; exact kns10_250_11
    refine g_pure 6 (i' := 53) (lv' := [some (vR 250), some (vI (nI k)), some (vI (nI f)), some (vI (nI b)), some (vI (nI (4 * (n - 1))))]) (st' := [vI (nI b), vI (nI (4 * (n - 1)) + 3), vR 261]) rfl ?_
    refine gW_eq (lv' := [some (vR 250), some (vI (nI k)), some (vI (nI f)), some (vI (nI b)), some (vI (nI (4 * (n - 1))))]) (st' := [vI (nI b), vI (nI (4 * (n - 1) + 3)), vR 261]) rfl (by rw [(show (nI (4 * (n - 1)) + 3) = nI (4 * (n - 1) + 3) from ((g_add (rfl : nI (4 * (n - 1)) = nI (4 * (n - 1))) (show (3 : Int32) = nI 3 from rfl))).trans (congrArg nI (by omega)))]) rfl ?_
    refine g_ast rfl (g_A (a := 261) (kd := 1) (n := 400) rfl (by decide)) (by decide) (show nI (4 * (n - 1) + 3) = nI (4 * (n - 1) + 3) from (rfl : nI (4 * (n - 1) + 3) = nI (4 * (n - 1) + 3))) (by omega) ?_
    refine g_setv (fun s12 es12 => ?_)
    have kns12_250_11 : s12 250 11 = nI (n - 1) := by rw [es12, mu_ne (by decide)]; exact kns11_250_11
    refine g_pure 2 (i' := 56) (lv' := [some (vR 250), some (vI (nI k)), some (vI (nI f)), some (vI (nI b)), some (vI (nI (4 * (n - 1))))]) (st' := [vR 250, vR 250]) rfl ?_
    refine g_getI rfl (g_A (a := 250) (kd := 0) (n := 6) rfl (by decide)) (show _ = nI (n - 1) from kns12_250_11) ?_
    refine g_pure 2 (i' := 59) (lv' := [some (vR 250), some (vI (nI k)), some (vI (nI f)), some (vI (nI b)), some (vI (nI (4 * (n - 1))))]) (st' := [vI (nI (n - 1) + 1), vR 250]) rfl ?_
    refine gW_eq (lv' := [some (vR 250), some (vI (nI k)), some (vI (nI f)), some (vI (nI b)), some (vI (nI (4 * (n - 1))))]) (st' := [vI (nI ((n - 1) + 1)), vR 250]) rfl (by rw [(show (nI (n - 1) + 1) = nI ((n - 1) + 1) from ((g_add (rfl : nI (n - 1) = nI (n - 1)) (show (1 : Int32) = nI 1 from rfl))).trans (congrArg nI (by omega)))]) rfl ?_
    refine g_putI rfl (g_A (a := 250) (kd := 0) (n := 6) rfl (by decide)) ?_
    refine g_setv (fun s13 es13 => ?_)
    have kns13_250_11 : s13 250 11 = nI ((n - 1) + 1) := by rw [es13]; exact mu_self.trans ((rfl : nI ((n - 1) + 1) = nI ((n - 1) + 1)))
    refine g_vret rfl ?_
    exact o2 h1 s7 es7 s8 es8 s9 es9 s10 es10 s11 es11 s12 es12 s13 es13

theorem b_58_0 {X : Nat × (Nat → Int32)} {d : Nat} {p : Nat → Nat} {sg : Mg} {Q : am_R → Prop} {B : Nat} {S : Nat → Int32} (hI : Inv B S) (hL : cwL 250 sg S) (hD : cwD 200 sg S) {k : Nat} {f : Nat} (u_k : k ≤ 7) (u_f : f ≤ 7) (q1 : k < sn S 1)
    (o1 : (((S (113 + 6 * k + 5) >>> (nI f &&& 31)) &&& 1) = 0) → Q (gRv p sg 0))
    (o2 : (¬ (((S (113 + 6 * k + 5) >>> (nI f &&& 31)) &&& 1) = 0)) → Q (gRv p sg 1)) :
    gW X (d) k_58 0 [some (vR 250), some (vI (nI k)), some (vI (nI f))] [] p sg Q := by
  have b0 := hI.b0; have b1 := hI.b1; have b2 := hI.b2; have b3 := hI.b3; have b4 := hI.b4; have b5 := hI.b5; have b6 := hI.b6; have b7 := hI.b7; have b8 := hI.b8; have b9 := hI.b9; have b14 := hI.b14
  refine g_pure 3 (i' := 3) (lv' := [some (vR 250), some (vI (nI k)), some (vI (nI f))]) (st' := [vI (nI k), vR 257]) rfl ?_
  refine g_ald rfl (g_A (a := 257) (kd := 1) (n := 8) rfl (by decide)) (by decide) (show nI k = nI k from (rfl : nI k = nI k)) (by omega) (show _ = S (113 + 6 * k + 5) from (hL.per 5 (by decide) (by omega))) ?_
  refine g_pure 4 (i' := 8) (lv' := [some (vR 250), some (vI (nI k)), some (vI (nI f))]) (st' := [vI ((S (113 + 6 * k + 5) >>> (nI f &&& 31)) &&& 1)]) rfl ?_
  refine g_if1 (i' := 11) (P := ((S (113 + 6 * k + 5) >>> (nI f &&& 31)) &&& 1) = 0) rfl rfl Iff.rfl (fun h1 => ?_) (fun h1 => ?_)
  · refine g_pure 1 (i' := 12) (lv' := [some (vR 250), some (vI (nI k)), some (vI (nI f))]) (st' := [vI 0]) rfl ?_
    refine g_bret rfl g_nar0 ?_
    exact o1 h1
  · refine g_pure 2 (i' := 12) (lv' := [some (vR 250), some (vI (nI k)), some (vI (nI f))]) (st' := [vI 1]) rfl ?_
    refine g_bret rfl g_nar1 ?_
    exact o2 h1

theorem b_261_j {X : Nat × (Nat → Int32)} {d : Nat} {p : Nat → Nat} {sg : Mg} {Q : am_R → Prop} {S : Nat → Int32} (hS : sg 801 = S) {k : Nat} {f : Nat} {b : Nat} {j : Nat} (u_k : k ≤ 7) (u_f : f ≤ 7) (u_b : b ≤ 9) (u_j : j ≤ 399) (q1 : 4 ≤ j)
    (o1 : ∀ s2 : Mg, s2 = mu sg 801 (309 + j) (S (305 + j)) → s2 801 = (upd S (309 + j) (S (305 + j))) → gW X (d + 1) k_261 23 [some (vR 800), some (vI (nI k)), some (vI (nI f)), some (vI (nI b)), some (vI (nI j + -1))] [] p s2 Q) :
    gW X (d + 1) k_261 23 [some (vR 800), some (vI (nI k)), some (vI (nI f)), some (vI (nI b)), some (vI (nI j))] [] p sg Q := by
  refine g_pure 2 (i' := 25) (lv' := [some (vR 800), some (vI (nI k)), some (vI (nI f)), some (vI (nI b)), some (vI (nI j))]) (st' := [vI 4, vI (nI j)]) rfl ?_
  refine g_if2 (i' := 42) (P := j < 4) rfl rfl (g_ltN (show nI j = nI j from (rfl : nI j = nI j)) (show 4 = nI 4 from (show (4 : Int32) = nI 4 from rfl)) (by omega) (by omega)) (fun h1 => absurd h1 (by omega)) (fun _ => ?_)
  refine g_pure 12 (i' := 38) (lv' := [some (vR 800), some (vI (nI k)), some (vI (nI f)), some (vI (nI b)), some (vI (nI j))]) (st' := [vI ((309 + nI j) - 4), vR 801, vI (309 + nI j), vR 801]) rfl ?_
  refine gW_eq (lv' := [some (vR 800), some (vI (nI k)), some (vI (nI f)), some (vI (nI b)), some (vI (nI j))]) (st' := [vI (nI (305 + j)), vR 801, vI (nI (309 + j)), vR 801]) rfl (by rw [(show ((309 + nI j) - 4) = nI (305 + j) from ((g_sub (g_add (show (309 : Int32) = nI 309 from rfl) (rfl : nI j = nI j)) (show (4 : Int32) = nI 4 from rfl) (by omega))).trans (congrArg nI (by omega))), (show (309 + nI j) = nI (309 + j) from ((g_add (show (309 : Int32) = nI 309 from rfl) (rfl : nI j = nI j))).trans (congrArg nI (by omega)))]) rfl ?_
  refine g_ald rfl (g_A (a := 801) (kd := 1) (n := 2407) rfl (by decide)) (by decide) (show nI (305 + j) = nI (305 + j) from (rfl : nI (305 + j) = nI (305 + j))) (by omega) (show _ = S (305 + j) from (congrFun hS (305 + j))) ?_
  refine g_ast rfl (g_A (a := 801) (kd := 1) (n := 2407) rfl (by decide)) (by decide) (show nI (309 + j) = nI (309 + j) from (rfl : nI (309 + j) = nI (309 + j))) (by omega) ?_
  refine g_setv (fun s2 es2 => ?_)
  have hSs2 : s2 801 = upd S (309 + j) (S (305 + j)) := by rw [es2, mu_row, hS]
  refine g_pure 2 (i' := 23) (lv' := [some (vR 800), some (vI (nI k)), some (vI (nI f)), some (vI (nI b)), some (vI (nI j + -1))]) (st' := []) rfl ?_
  exact o1 s2 es2 hSs2

theorem b_261_3 {X : Nat × (Nat → Int32)} {d : Nat} {p : Nat → Nat} {sg : Mg} {Q : am_R → Prop} {B : Nat} {S : Nat → Int32} (hI : Inv B S) (hS : sg 801 = S) {k : Nat} {f : Nat} {b : Nat} (u_k : k ≤ 7) (u_f : f ≤ 7) (u_b : b ≤ 9) (q1 : k < sn S 1)
    (o1 : ∀ s2 : Mg, s2 = mu sg 801 309 (S 8) → ∀ s3 : Mg, s3 = mu s2 801 310 (nI k) → ∀ s4 : Mg, s4 = mu s3 801 311 (nI f) → ∀ s5 : Mg, s5 = mu s4 801 312 (nI b) → ∀ s8 : Mg, s8 = mu s5 801 14 (nI (min 100 (sn S 14 + 1))) → s8 801 = (upd (upd (upd (upd (upd S 309 (S 8)) 310 (nI k)) 311 (nI f)) 312 (nI b)) 14 (nI (min 100 (sn S 14 + 1)))) → Q (gRv p s8 1)) :
    gW X (d + 1) k_261 23 [some (vR 800), some (vI (nI k)), some (vI (nI f)), some (vI (nI b)), some (vI 3)] [] p sg Q := by
  have b0 := hI.b0; have b1 := hI.b1; have b2 := hI.b2; have b3 := hI.b3; have b4 := hI.b4; have b5 := hI.b5; have b6 := hI.b6; have b7 := hI.b7; have b8 := hI.b8; have b9 := hI.b9; have b14 := hI.b14
  refine g_pure 2 (i' := 25) (lv' := [some (vR 800), some (vI (nI k)), some (vI (nI f)), some (vI (nI b)), some (vI 3)]) (st' := [vI 4, vI 3]) rfl ?_
  refine g_if2 (i' := 42) (P := 3 < 4) rfl rfl (g_ltN (show 3 = nI 3 from (show (3 : Int32) = nI 3 from rfl)) (show 4 = nI 4 from (show (4 : Int32) = nI 4 from rfl)) (by omega) (by omega)) (fun _ => ?_) (fun h1 => absurd (by omega) h1)
  refine g_pure 4 (i' := 46) (lv' := [some (vR 800), some (vI (nI k)), some (vI (nI f)), some (vI (nI b)), some (vI 3)]) (st' := [vR 800, vI 309, vR 801]) rfl ?_
  refine g_cV1 rfl (args := [vR 800]) (rest := [vI 309, vR 801]) rfl rfl rfl (s_248 (d := d) hS) ?_
  refine g_ast rfl (g_A (a := 801) (kd := 1) (n := 2407) rfl (by decide)) (by decide) (show 309 = nI 309 from (show (309 : Int32) = nI 309 from rfl)) (by decide) ?_
  refine g_setv (fun s2 es2 => ?_)
  have hSs2 : s2 801 = upd S 309 (S 8) := by rw [es2, mu_row, hS]
  refine g_pure 4 (i' := 52) (lv' := [some (vR 800), some (vI (nI k)), some (vI (nI f)), some (vI (nI b)), some (vI 3)]) (st' := [vI (nI k), vI 310, vR 801]) rfl ?_
  refine g_ast rfl (g_A (a := 801) (kd := 1) (n := 2407) rfl (by decide)) (by decide) (show 310 = nI 310 from (show (310 : Int32) = nI 310 from rfl)) (by decide) ?_
  refine g_setv (fun s3 es3 => ?_)
  have hSs3 : s3 801 = upd (upd S 309 (S 8)) 310 (nI k) := by rw [es3, mu_row, hSs2]
  refine g_pure 4 (i' := 57) (lv' := [some (vR 800), some (vI (nI k)), some (vI (nI f)), some (vI (nI b)), some (vI 3)]) (st' := [vI (nI f), vI 311, vR 801]) rfl ?_
  refine g_ast rfl (g_A (a := 801) (kd := 1) (n := 2407) rfl (by decide)) (by decide) (show 311 = nI 311 from (show (311 : Int32) = nI 311 from rfl)) (by decide) ?_
  refine g_setv (fun s4 es4 => ?_)
  have hSs4 : s4 801 = upd (upd (upd S 309 (S 8)) 310 (nI k)) 311 (nI f) := by rw [es4, mu_row, hSs3]
  refine g_pure 4 (i' := 62) (lv' := [some (vR 800), some (vI (nI k)), some (vI (nI f)), some (vI (nI b)), some (vI 3)]) (st' := [vI (nI b), vI 312, vR 801]) rfl ?_
  refine g_ast rfl (g_A (a := 801) (kd := 1) (n := 2407) rfl (by decide)) (by decide) (show 312 = nI 312 from (show (312 : Int32) = nI 312 from rfl)) (by decide) ?_
  refine g_setv (fun s5 es5 => ?_)
  have hSs5 : s5 801 = upd (upd (upd (upd S 309 (S 8)) 310 (nI k)) 311 (nI f)) 312 (nI b) := by rw [es5, mu_row, hSs4]
  refine g_pure 7 (i' := 70) (lv' := [some (vR 800), some (vI (nI k)), some (vI (nI f)), some (vI (nI b)), some (vI 3)]) (st' := [vI 14, vR 801, vI 100, vI 14, vR 801]) rfl ?_
  refine g_ald rfl (g_A (a := 801) (kd := 1) (n := 2407) rfl (by decide)) (by decide) (show 14 = nI 14 from (show (14 : Int32) = nI 14 from rfl)) (by decide) (show _ = S 14 from (((((congrFun hSs5 14)).trans (upd_ne (by omega))).trans (upd_ne (by omega))).trans (upd_ne (by omega))).trans (upd_ne (by omega))) ?_
  refine g_pure 2 (i' := 73) (lv' := [some (vR 800), some (vI (nI k)), some (vI (nI f)), some (vI (nI b)), some (vI 3)]) (st' := [vI (S 14 + 1), vI 100, vI 14, vR 801]) rfl ?_
  refine gW_eq (lv' := [some (vR 800), some (vI (nI k)), some (vI (nI f)), some (vI (nI b)), some (vI 3)]) (st' := [vI (nI (sn S 14 + 1)), vI 100, vI 14, vR 801]) rfl (by rw [(show (S 14 + 1) = nI (sn S 14 + 1) from ((g_add (hI.c14) (show (1 : Int32) = nI 1 from rfl))).trans (congrArg nI (by omega)))]) rfl ?_
  refine gW_eq (st' := [vI (nI (sn S 14 + 1)), vI (nI 100), vI 14, vR 801]) rfl (by rw [(show (100 : Int32) = nI 100 from rfl)]) rfl ?_
  refine g_cS1 rfl (args := [vI (nI 100), vI (nI (sn S 14 + 1))]) (rest := [vI 14, vR 801]) rfl rfl rfl (s_313n (d := d) (by omega) (by omega)) ?_
  have t6 := Nat.min_le_left 100 (sn S 14 + 1)
  have t7 := Nat.min_le_right 100 (sn S 14 + 1)
  refine g_ast rfl (g_A (a := 801) (kd := 1) (n := 2407) rfl (by decide)) (by decide) (show 14 = nI 14 from (show (14 : Int32) = nI 14 from rfl)) (by decide) ?_
  refine g_setv (fun s8 es8 => ?_)
  have hSs8 : s8 801 = upd (upd (upd (upd (upd S 309 (S 8)) 310 (nI k)) 311 (nI f)) 312 (nI b)) 14 (nI (min 100 (sn S 14 + 1))) := by rw [es8, mu_row, hSs5]
  refine g_pure 1 (i' := 76) (lv' := [some (vR 800), some (vI (nI k)), some (vI (nI f)), some (vI (nI b)), some (vI 3)]) (st' := [vI 1]) rfl ?_
  refine g_bret rfl g_nar1 ?_
  exact o1 s2 es2 s3 es3 s4 es4 s5 es5 s8 es8 hSs8

theorem b_261_0 {X : Nat × (Nat → Int32)} {d : Nat} {p : Nat → Nat} {sg : Mg} {Q : am_R → Prop} {B : Nat} {S : Nat → Int32} (hI : Inv B S) (hS : sg 801 = S) {k : Nat} {f : Nat} {b : Nat} (u_k : k ≤ 7) (u_f : f ≤ 7) (u_b : b ≤ 9) (q1 : k < sn S 1)
    (o1 : (¬ ((((S (113 + 6 * k + 5)) >>> ((nI f) &&& 31)) &&& 1) = 1)) → ∀ s2 : Mg, s2 = mu sg 801 (113 + 6 * k + 5) (S (113 + 6 * k + 5) ||| (1 <<< (nI f &&& 31))) → s2 801 = (upd S (113 + 6 * k + 5) (S (113 + 6 * k + 5) ||| (1 <<< (nI f &&& 31)))) → gW X (d + 1) k_261 23 [some (vR 800), some (vI (nI k)), some (vI (nI f)), some (vI (nI b)), some (vI 399)] [] p s2 Q)
    (o2 : (((((S (113 + 6 * k + 5)) >>> ((nI f) &&& 31)) &&& 1) = 1)) → Q (gRv p sg 0)) :
    gW X (d + 1) k_261 0 [some (vR 800), some (vI (nI k)), some (vI (nI f)), some (vI (nI b)), none] [] p sg Q := by
  have b0 := hI.b0; have b1 := hI.b1; have b2 := hI.b2; have b3 := hI.b3; have b4 := hI.b4; have b5 := hI.b5; have b6 := hI.b6; have b7 := hI.b7; have b8 := hI.b8; have b9 := hI.b9; have b14 := hI.b14
  refine g_pure 3 (i' := 3) (lv' := [some (vR 800), some (vI (nI k)), some (vI (nI f)), some (vI (nI b)), none]) (st' := [vI 5, vI (nI k), vR 800]) rfl ?_
  refine gW_eq (st' := [vI (nI 5), vI (nI k), vR 800]) rfl (by rw [(show (5 : Int32) = nI 5 from rfl)]) rfl ?_
  refine g_cV1 rfl (args := [vR 800, vI (nI k), vI (nI 5)]) (rest := []) rfl rfl rfl (s_238 (d := d) hS (by omega) (by omega)) ?_
  refine g_pure 1 (i' := 5) (lv' := [some (vR 800), some (vI (nI k)), some (vI (nI f)), some (vI (nI b)), none]) (st' := [vI (nI f), vI (S (113 + 6 * k + 5))]) rfl ?_
  refine g_cS1 rfl (args := [vI (S (113 + 6 * k + 5)), vI (nI f)]) (rest := []) rfl rfl rfl (s_201 (d := d) ) ?_
  refine g_if1 (i' := 9) (P := ¬ ((((S (113 + 6 * k + 5)) >>> ((nI f) &&& 31)) &&& 1) = 1)) rfl rfl g_eqB (fun h1 => ?_) (fun h1 => ?_)
  · refine g_pure 6 (i' := 15) (lv' := [some (vR 800), some (vI (nI k)), some (vI (nI f)), some (vI (nI b)), none]) (st' := [vI 5, vI (nI k), vR 800, vI 5, vI (nI k), vR 800]) rfl ?_
    refine gW_eq (st' := [vI (nI 5), vI (nI k), vR 800, vI 5, vI (nI k), vR 800]) rfl (by rw [(show (5 : Int32) = nI 5 from rfl)]) rfl ?_
    refine g_cV1 rfl (args := [vR 800, vI (nI k), vI (nI 5)]) (rest := [vI 5, vI (nI k), vR 800]) rfl rfl rfl (s_238 (d := d) hS (by omega) (by omega)) ?_
    refine g_pure 4 (i' := 20) (lv' := [some (vR 800), some (vI (nI k)), some (vI (nI f)), some (vI (nI b)), none]) (st' := [vI (S (113 + 6 * k + 5) ||| (1 <<< (nI f &&& 31))), vI 5, vI (nI k), vR 800]) rfl ?_
    refine gW_eq (st' := [vI (S (113 + 6 * k + 5) ||| (1 <<< (nI f &&& 31))), vI (nI 5), vI (nI k), vR 800]) rfl (by rw [(show (5 : Int32) = nI 5 from rfl)]) rfl ?_
    refine g_cV0 rfl (args := [vR 800, vI (nI k), vI (nI 5), vI (S (113 + 6 * k + 5) ||| (1 <<< (nI f &&& 31)))]) (rest := []) rfl rfl rfl (s_205 (d := d) (by omega) (by omega)) ?_
    refine g_setv (fun s2 es2 => ?_)
    have hSs2 : s2 801 = upd S (113 + 6 * k + 5) (S (113 + 6 * k + 5) ||| (1 <<< (nI f &&& 31))) := by rw [es2, mu_row, hS]
    refine g_pure 2 (i' := 23) (lv' := [some (vR 800), some (vI (nI k)), some (vI (nI f)), some (vI (nI b)), some (vI 399)]) (st' := []) rfl ?_
    exact o1 h1 s2 es2 hSs2
  · have h1 := Classical.not_not.mp h1
    refine g_pure 1 (i' := 8) (lv' := [some (vR 800), some (vI (nI k)), some (vI (nI f)), some (vI (nI b)), none]) (st' := [vI 0]) rfl ?_
    refine g_bret rfl g_nar0 ?_
    exact o2 h1

theorem cwL.rc {B : Nat} {S : Nat → Int32} {sg s : Mg} (hI : Inv B S) (hL : cwL 250 sg S) {k f b : Nat} (h1 : ∀ c, c ≠ 250 → c ≠ 261 → s c = sg c) (h2 : ∀ q, q ≠ 11 → s 250 q = sg 250 q) (h3 : s 250 11 = nI (min 100 (sn S 14 + 1)))
    (h4 : s 261 (4 * (min 100 (sn S 14 + 1) - 1)) = S 8 ∧ s 261 (4 * (min 100 (sn S 14 + 1) - 1) + 1) = nI k ∧ s 261 (4 * (min 100 (sn S 14 + 1) - 1) + 2) = nI f ∧ s 261 (4 * (min 100 (sn S 14 + 1) - 1) + 3) = nI b)
    (h5 : ∀ i j, i < min 100 (sn S 14 + 1) - 1 → j < 4 → s 261 (4 * i + j) = sg 261 (4 * (i + (sn S 14 - (min 100 (sn S 14 + 1) - 1))) + j)) : cwL 250 s (rcS S k f b) := by
  have b14 := hI.b14
  refine ⟨fun v q hv hq => ?_, fun j' k' hj' hk' => ?_, fun k' hk' => ?_, fun j' k' hj' hk' => ?_, ⟨?_, ?_, ?_, ?_, ?_⟩, fun q j hq hj => ?_⟩
  · rw [h1 _ (by omega) (by omega), rcS_ne (by omega)]; exact hL.tab hv hq
  · rw [h1 _ (by omega) (by omega), rcS_ne (by omega)]; exact hL.per j' hj' hk'
  · rw [h1 _ (by omega) (by omega), rcS_ne (by omega)]; exact hL.mis hk'
  · rw [h1 _ (by omega) (by omega), rcS_ne (by omega)]; exact hL.don j' hj' hk'
  · rw [h3, rcS_14]
  · rw [h2 _ (by decide), rcS_ne (by decide)]; exact hL.f12
  · rw [h2 _ (by decide), rcS_ne (by decide)]; exact hL.f13
  · rw [h2 _ (by decide), rcS_ne (by decide)]; exact hL.f14
  · rw [h2 _ (by decide), rcS_ne (by decide)]; exact hL.f15
  · rw [rcS_s14] at hq ⊢
    rcases Nat.eq_zero_or_pos q with h0 | h0
    · subst h0
      rw [Nat.sub_zero]
      rcases (show j = 0 ∨ j = 1 ∨ j = 2 ∨ j = 3 by omega) with rfl | rfl | rfl | rfl
      · exact h4.1
      · exact h4.2.1
      · exact h4.2.2.1
      · exact h4.2.2.2
    · obtain ⟨q', rfl⟩ : ∃ q', q = q' + 1 := ⟨q - 1, by omega⟩
      rw [rcS_log (by omega) hj]
      have h := h5 (min 100 (sn S 14 + 1) - 1 - (q' + 1)) j (by omega) hj
      have h6 := hL.log (k := q') j (by omega) hj
      rw [show min 100 (sn S 14 + 1) - 1 - (q' + 1) + (sn S 14 - (min 100 (sn S 14 + 1) - 1)) = sn S 14 - 1 - q' by omega] at h
      exact h.trans h6
theorem s_59 {X : Nat × (Nat → Int32)} {d : Nat} {p : Nat → Nat} {sg : Mg} {B : Nat} {S : Nat → Int32} (hI : Inv B S) (hL : cwL 250 sg S) (hD : cwD 200 sg S) {k f b : Nat} (hk : k ≤ 7) (hf : f ≤ 7) (hb : b ≤ 9) : gF X (d + 1) 59 [vR 250, vI (nI k), vI (nI f), vI (nI b)] p sg (fun r => ∃ s, ((∀ c, c ≠ 250 → c ≠ 261 → s c = sg c) ∧ cwL 250 s (rcS S k f b)) ∧ r = gR0 p s) := by
  have b14 := hI.b14
  have t12 := hL.f12
  refine g_in (cd := k_59) (nL := 5) (rc := 7) rfl (g_A (a := 250) (kd := 0) (n := 6) rfl (by decide)) (g_c1 rfl) (b_59_0 (n := sn S 14) b14 (by rw [hL.f11]; exact hI.c14) hk hf hb ?_ ?_)
  · intro hn s2 e2 s3 e3 s4 e4 s5 e5 s6 e6
    have h1 : ∀ c, c ≠ 250 → c ≠ 261 → s6 c = sg c := fun c h1 h2 => by rw [e6, mu_ne h1, e5, mu_ne h2, e4, mu_ne h2, e3, mu_ne h2, e2, mu_ne h2]
    have e0 : min 100 (sn S 14 + 1) = sn S 14 + 1 := Nat.min_eq_right (by omega)
    refine ⟨s6, ⟨h1, hL.rc hI h1 (fun q hq => ?_) ?_ ?_ ?_⟩, rfl⟩
    · rw [e6, mu_idx hq, e5, mu_ne (by decide), e4, mu_ne (by decide), e3, mu_ne (by decide), e2, mu_ne (by decide)]
    · rw [e0, e6, mu_self]
    · rw [e0, Nat.add_sub_cancel]
      refine ⟨?_, ?_, ?_, ?_⟩
      · rw [e6, mu_ne (by decide), e5, mu_idx (by omega), e4, mu_idx (by omega), e3, mu_idx (by omega), e2, mu_self]; exact t12
      · rw [e6, mu_ne (by decide), e5, mu_idx (by omega), e4, mu_idx (by omega), e3, mu_self]
      · rw [e6, mu_ne (by decide), e5, mu_idx (by omega), e4, mu_self]
      · rw [e6, mu_ne (by decide), e5, mu_self]
    · intro i j hi hj
      rw [e0, Nat.add_sub_cancel, Nat.sub_self, Nat.add_zero] at *
      rw [e6, mu_ne (by decide), e5, mu_idx (by omega), e4, mu_idx (by omega), e3, mu_idx (by omega), e2, mu_idx (by omega)]
  · intro hn s7 e7 s8 e8 s9 e9 s10 e10 s11 e11 s12 e12 s13 e13
    have h1 : ∀ c, c ≠ 250 → c ≠ 261 → s13 c = sg c := fun c h1 h2 => by rw [e13, mu_ne h1, e12, mu_ne h2, e11, mu_ne h2, e10, mu_ne h2, e9, mu_ne h2, e8, mu_ne h1, e7, va_up_ne _ _ h2]
    have e0 : min 100 (sn S 14 + 1) = 100 := Nat.min_eq_left (by omega)
    rw [hn] at e8 e9 e10 e11 e12 e13
    refine ⟨s13, ⟨h1, hL.rc hI h1 (fun q hq => ?_) ?_ ?_ ?_⟩, rfl⟩
    · rw [e13, mu_idx hq, e12, mu_ne (by decide), e11, mu_ne (by decide), e10, mu_ne (by decide), e9, mu_ne (by decide), e8, mu_idx hq, e7, va_up_ne _ _ (by decide)]
    · rw [e0, e13, mu_self]
    · rw [e0]
      refine ⟨?_, ?_, ?_, ?_⟩
      · rw [e13, mu_ne (by decide), e12, mu_idx (by decide), e11, mu_idx (by decide), e10, mu_idx (by decide), e9, mu_self, e8, mu_idx (by decide), e7, va_up_ne _ _ (by decide)]; exact t12
      · rw [e13, mu_ne (by decide), e12, mu_idx (by decide), e11, mu_idx (by decide), e10, mu_self]
      · rw [e13, mu_ne (by decide), e12, mu_idx (by decide), e11, mu_self]
      · rw [e13, mu_ne (by decide), e12, mu_self]
    · intro i j hi hj
      rw [e0] at hi ⊢
      rw [hn, e13, mu_ne (by decide), e12, mu_idx (by omega), e11, mu_idx (by omega), e10, mu_idx (by omega), e9, mu_idx (by omega), e8, mu_ne (by decide), e7, va_up_self]
      unfold va_cpy
      rw [if_pos ⟨Nat.zero_le _, by omega⟩]
      congr 1
      omega
theorem s_58 {X : Nat × (Nat → Int32)} {d : Nat} {p : Nat → Nat} {sg : Mg} {B : Nat} {S : Nat → Int32} (hI : Inv B S) (hL : cwL 250 sg S) (hD : cwD 200 sg S) {k f : Nat} (hk : k < sn S 1) (hf : f ≤ 7) : gF X (d + 1) 58 [vR 250, vI (nI k), vI (nI f)] p sg (fun r => r = gRv p sg (if (sn S (113 + 6 * k + 5)).testBit f = true then 1 else 0)) := by
  have b1 := hI.b1
  obtain ⟨c1, c2⟩ := (hI.per hk).2.2.2
  refine g_in (cd := k_58) (nL := 3) (rc := 7) rfl (g_A (a := 250) (kd := 0) (n := 6) rfl (by decide)) (g_c1 rfl) (b_58_0 hI hL hD (by omega) hf hk (fun h => ?_) (fun h => ?_))
  · rw [c1, nI_bit0 (by omega) (by omega)] at h
    rw [if_neg (by rw [h]; decide)]
  · rw [c1, nI_bit0 (by omega) (by omega)] at h
    rw [if_pos (by simpa using h)]

theorem b_57_0 {X : Nat × (Nat → Int32)} {d : Nat} {p : Nat → Nat} {sg : Mg} {Q : am_R → Prop} {B : Nat} {S : Nat → Int32} (hI : Inv B S) (hL : cwL 250 sg S) (hD : cwD 200 sg S) {k : Nat} {f : Nat} {b : Nat} (u_k : k ≤ 7) (u_f : f ≤ 7) (u_b : b ≤ 9) (q1 : k < sn S 1)
    (o1 : (¬ ((sn S (113 + 6 * k + 5)).testBit f = true)) → ∀ s2 : Mg, s2 = mu sg 257 k (S (113 + 6 * k + 5) ||| (1 <<< (nI f &&& 31))) → cwL 250 s2 (upd S (113 + 6 * k + 5) (S (113 + 6 * k + 5) ||| (1 <<< (nI f &&& 31)))) → cwD 200 s2 (upd S (113 + 6 * k + 5) (S (113 + 6 * k + 5) ||| (1 <<< (nI f &&& 31)))) → gW X (d + 1) k_57 17 [some (vR 250), some (vI (nI k)), some (vI (nI f)), some (vI (nI b))] [] p s2 Q)
    (o2 : (((sn S (113 + 6 * k + 5)).testBit f = true)) → Q (gRv p sg 0)) :
    gW X (d + 1) k_57 0 [some (vR 250), some (vI (nI k)), some (vI (nI f)), some (vI (nI b))] [] p sg Q := by
  have b0 := hI.b0; have b1 := hI.b1; have b2 := hI.b2; have b3 := hI.b3; have b4 := hI.b4; have b5 := hI.b5; have b6 := hI.b6; have b7 := hI.b7; have b8 := hI.b8; have b9 := hI.b9; have b14 := hI.b14
  refine g_pure 3 (i' := 3) (lv' := [some (vR 250), some (vI (nI k)), some (vI (nI f)), some (vI (nI b))]) (st' := [vI (nI f), vI (nI k), vR 250]) rfl ?_
  refine g_cV1 rfl (args := [vR 250, vI (nI k), vI (nI f)]) (rest := []) rfl rfl rfl (s_58 (d := d) hI hL hD (by omega) (by omega)) ?_
  refine g_if1 (i' := 7) (P := ¬ ((sn S (113 + 6 * k + 5)).testBit f = true)) rfl rfl g_eqB (fun h1 => ?_) (fun h1 => ?_)
  · refine g_pure 4 (i' := 11) (lv' := [some (vR 250), some (vI (nI k)), some (vI (nI f)), some (vI (nI b))]) (st' := [vI (nI k), vR 257, vI (nI k), vR 257]) rfl ?_
    refine g_ald rfl (g_A (a := 257) (kd := 1) (n := 8) rfl (by decide)) (by decide) (show nI k = nI k from (rfl : nI k = nI k)) (by omega) (show _ = S (113 + 6 * k + 5) from (hL.per 5 (by decide) (by omega))) ?_
    refine g_pure 4 (i' := 16) (lv' := [some (vR 250), some (vI (nI k)), some (vI (nI f)), some (vI (nI b))]) (st' := [vI (S (113 + 6 * k + 5) ||| (1 <<< (nI f &&& 31))), vI (nI k), vR 257]) rfl ?_
    refine g_ast rfl (g_A (a := 257) (kd := 1) (n := 8) rfl (by decide)) (by decide) (show nI k = nI k from (rfl : nI k = nI k)) (by omega) ?_
    refine g_setv (fun s2 es2 => ?_)
    have hLs2 : cwL 250 s2 (upd S (113 + 6 * k + 5) (S (113 + 6 * k + 5) ||| (1 <<< (nI f &&& 31)))) := by rw [es2]; exact hL.wper (j := 5) (by decide) (by omega)
    have hDs2 : cwD 200 s2 (upd S (113 + 6 * k + 5) (S (113 + 6 * k + 5) ||| (1 <<< (nI f &&& 31)))) := by rw [es2]; exact hD.life (by decide) (by unfold noLand; omega)
    exact o1 h1 s2 es2 hLs2 hDs2
  · have h1 := Classical.not_not.mp h1
    refine g_pure 1 (i' := 6) (lv' := [some (vR 250), some (vI (nI k)), some (vI (nI f)), some (vI (nI b))]) (st' := [vI 0]) rfl ?_
    refine g_bret rfl g_nar0 ?_
    exact o2 h1

theorem lrS_1 {S : Nat → Int32} {k f b : Nat} (h : (sn S (113 + 6 * k + 5)).testBit f = true) : lrS S k f b = S := if_pos h
theorem lrS_0 {S : Nat → Int32} {k f b : Nat} (h : ¬ (sn S (113 + 6 * k + 5)).testBit f = true) : lrS S k f b = rcS (upd S (113 + 6 * k + 5) (nI (sn S (113 + 6 * k + 5) ||| 2 ^ f))) k f b := if_neg h
theorem noLand_rc {w : Nat} {sg : Mg} {S : Nat → Int32} (h : cwD w sg S) {k f b : Nat} : cwD w sg (rcS S k f b) := by
  refine ⟨fun k hk => ?_, fun k j hk hj => ?_, fun k j hk hj => ?_, fun k j hk hj => ?_, fun k j hk hj => ?_, ?_, ?_, ?_, ?_, ?_⟩
  · rw [rcS_ne (by omega)]; exact h.cnt hk
  · rw [rcS_ne (by omega)]; exact h.fac j hk hj
  · rw [rcS_ne (by omega)]; exact h.roa j hk hj
  · rw [rcS_ne (by omega)]; exact h.deb j hk hj
  · rw [rcS_ne (by omega)]; exact h.tas j hk hj
  · rw [rcS_ne (by omega)]; exact h.f5
  · rw [rcS_ne (by omega)]; exact h.f6
  · rw [rcS_ne (by omega)]; exact h.f7
  · rw [rcS_ne (by omega)]; exact h.f8
  · rw [rcS_ne (by omega)]; exact h.f9
/-- the class: whether it is new -/
theorem s_57 {X : Nat × (Nat → Int32)} {d : Nat} {p : Nat → Nat} {sg : Mg} {B : Nat} {S : Nat → Int32} (hI : Inv B S) (hL : cwL 250 sg S) (hD : cwD 200 sg S) {k f b : Nat} (hk : k < sn S 1) (hf : f ≤ 7) (hb : b ≤ 9) : gF X (d + 2) 57 [vR 250, vI (nI k), vI (nI f), vI (nI b)] p sg (fun r => ∃ s, ((∀ c, c ≠ 250 → c ≠ 257 → c ≠ 261 → s c = sg c) ∧ cwL 250 s (lrS S k f b) ∧ cwD 200 s (lrS S k f b)) ∧ r = gRv p s (if (sn S (113 + 6 * k + 5)).testBit f = true then 0 else 1)) := by
  have b1 := hI.b1
  obtain ⟨c1, c2⟩ := (hI.per hk).2.2.2
  refine g_in (cd := k_57) (nL := 4) (rc := 7) rfl (g_A (a := 250) (kd := 0) (n := 6) rfl (by decide)) (g_c1 rfl) (b_57_0 hI hL hD (by omega) hf hb hk ?_ ?_)
  · intro h s2 e2 h1 h2
    have e : S (113 + 6 * k + 5) ||| (1 <<< (nI f &&& 31)) = nI (sn S (113 + 6 * k + 5) ||| 2 ^ f) := by
      rw [show S (113 + 6 * k + 5) = nI (sn S (113 + 6 * k + 5)) from c1, nI_orbit (by omega)]
    rw [e] at h1 h2
    have hI2 : Inv B (upd S (113 + 6 * k + 5) (nI (sn S (113 + 6 * k + 5) ||| 2 ^ f))) := hI.per1 hk (Or.inr (Or.inr ⟨rfl, or_lt (n := 8) c2 (pow_lt2 (by omega))⟩))
    refine g_pure 4 (i' := 21) (lv' := [some (vR 250), some (vI (nI k)), some (vI (nI f)), some (vI (nI b))]) (st' := [vI (nI b), vI (nI f), vI (nI k), vR 250]) rfl ?_
    refine g_cV0E rfl (args := [vR 250, vI (nI k), vI (nI f), vI (nI b)]) (rest := []) rfl rfl rfl (s_59 (d := d) hI2 h1 h2 (by omega) hf hb) (fun s3 h3 => ?_)
    refine g_pure 1 (i' := 23) (lv' := [some (vR 250), some (vI (nI k)), some (vI (nI f)), some (vI (nI b))]) (st' := [vI 1]) rfl ?_
    refine g_bret rfl g_nar1 ?_
    rw [lrS_0 h, if_neg h]
    refine ⟨s3, ⟨fun c x1 x2 x3 => ?_, h3.2, ?_⟩, rfl⟩
    · rw [h3.1 c x1 x3, e2, mu_ne x2]
    · exact (noLand_rc h2).eqc (fun c hc => h3.1 c (by omega) (by omega))
  · intro h
    rw [lrS_1 h, if_pos h]
    exact ⟨sg, ⟨fun _ _ _ _ => rfl, hL, hD⟩, rfl⟩
/-- the log, its rows from one on moved -/
def shS (S : Nat → Int32) (j i : Nat) : Int32 := if 309 + j < i ∧ i < 709 then S (i - 4) else S i
theorem shS_ne {S : Nat → Int32} {j i : Nat} (h : i < 309 ∨ 709 ≤ i) : shS S j i = S i := if_neg (by omega)
theorem l_261_23 {X : Nat × (Nat → Int32)} {d : Nat} {p : Nat → Nat} {sg : Mg} {B : Nat} {S : Nat → Int32} (hI : Inv B S) (hS : sg 801 = S) {Q : am_R → Prop} {k f b : Nat} (hk : k < sn S 1) (hf : f ≤ 7) (hb : b ≤ 9) (x : Q (gRv p (va_up sg 801 (rcS S k f b)) 1)) :
    gW X (d + 1) k_261 23 [some (vR 800), some (vI (nI k)), some (vI (nI f)), some (vI (nI b)), some (vI (nI 399))] [] p sg Q := by
  have b1 := hI.b1
  have b14 := hI.b14
  have key : ∀ m, m ≤ 396 → gW X (d + 1) k_261 23 [some (vR 800), some (vI (nI k)), some (vI (nI f)), some (vI (nI b)), some (vI (nI (m + 3)))] [] p (va_up sg 801 (shS S (m + 3))) Q := by
    intro m
    induction m with
    | zero =>
      intro _
      have hI2 : Inv B (shS S (0 + 3)) := hI.ext (fun i hi => shS_ne (by unfold freeI at hi; omega))
      refine b_261_3 hI2 (va_up_self _ _ _) (by omega) hf hb ?_ ?_
      · rw [sn_eq (shS_ne (by omega))]; exact hk
      · intro s2 e2 s3 e3 s4 e4 s5 e5 s8 e8 hS8
        have e : s8 = va_up sg 801 (rcS S k f b) := by
          funext c
          by_cases hc : c = 801
          · subst hc
            rw [hS8, va_up_self]
            funext i
            unfold rcS
            by_cases i14 : i = 14
            · subst i14
              rw [upd_self, if_pos rfl, sn_eq (S := S) (shS_ne (by omega))]
            · rw [upd_ne i14, if_neg i14]
              by_cases i12 : i = 312
              · subst i12; rw [upd_self]; rfl
              · rw [upd_ne i12]
                by_cases i11 : i = 311
                · subst i11; rw [upd_self]; rfl
                · rw [upd_ne i11]
                  by_cases i10 : i = 310
                  · subst i10; rw [upd_self]; rfl
                  · rw [upd_ne i10]
                    by_cases i9 : i = 309
                    · subst i9; rw [upd_self, shS_ne (by omega)]; rfl
                    · rw [upd_ne i9, if_neg i9, if_neg i10, if_neg i11, if_neg i12]
                      unfold shS
                      by_cases h7 : 313 ≤ i ∧ i < 709
                      · rw [if_pos h7, if_pos (by omega)]
                      · rw [if_neg h7, if_neg (by omega)]
          · rw [e8, mu_ne hc, e5, mu_ne hc, e4, mu_ne hc, e3, mu_ne hc, e2, mu_ne hc, va_up_ne _ _ hc, va_up_ne _ _ hc]
        rw [e]
        exact x
    | succ m ih =>
      intro hm
      refine b_261_j (S := shS S (m + 1 + 3)) (va_up_self _ _ _) (by omega) hf hb (by omega) (by omega) ?_
      intro s2 e2 _
      rw [show nI (m + 1 + 3) + -1 = nI (m + 3) from nI_dec (m + 3), e2, row_step (g := shS S (m + 3))]
      · exact ih (by omega)
      · unfold shS
        rw [if_pos (by omega), if_neg (by omega)]
        congr 1
        omega
      · intro i hi
        unfold shS
        by_cases h : 309 + (m + 1 + 3) < i ∧ i < 709
        · rw [if_pos h, if_pos (by omega)]
        · rw [if_neg h, if_neg (by omega)]
  have h := key 396 (by omega)
  have e : va_up sg 801 (shS S (396 + 3)) = sg := by
    rw [show (shS S (396 + 3)) = sg 801 from funext (fun i => by unfold shS; rw [if_neg (by omega), hS])]
    exact va_up_same
  rw [e] at h
  exact h
/-- the reference: whether it is new -/
theorem s_261 {X : Nat × (Nat → Int32)} {d : Nat} {p : Nat → Nat} {sg : Mg} {B : Nat} {S : Nat → Int32} (hI : Inv B S) (hS : sg 801 = S) {k f b : Nat} (hk : k < sn S 1) (hf : f ≤ 7) (hb : b ≤ 9) : gF X (d + 2) 261 [vR 800, vI (nI k), vI (nI f), vI (nI b)] p sg (fun r => r = gRv p (va_up sg 801 (lrS S k f b)) (if (sn S (113 + 6 * k + 5)).testBit f = true then 0 else 1)) := by
  have b1 := hI.b1
  obtain ⟨c1, c2⟩ := (hI.per hk).2.2.2
  have hb1 : (((S (113 + 6 * k + 5)) >>> ((nI f) &&& 31)) &&& 1) = 1 ↔ (sn S (113 + 6 * k + 5)).testBit f = true := by
    rw [c1, nI_bit1 (by omega) (by omega)]
  refine g_in (cd := k_261) (nL := 5) (rc := 13) rfl (g_A (a := 800) (kd := 0) (n := 12) rfl (by decide)) (g_c1 rfl) (b_261_0 hI hS (by omega) hf hb hk ?_ ?_)
  · intro h s2 e2 h2
    have h : ¬ (sn S (113 + 6 * k + 5)).testBit f = true := fun h9 => h (hb1.mpr h9)
    have e : S (113 + 6 * k + 5) ||| (1 <<< (nI f &&& 31)) = nI (sn S (113 + 6 * k + 5) ||| 2 ^ f) := by
      rw [show S (113 + 6 * k + 5) = nI (sn S (113 + 6 * k + 5)) from c1, nI_orbit (by omega)]
    rw [e] at h2 e2
    have hI2 : Inv B (upd S (113 + 6 * k + 5) (nI (sn S (113 + 6 * k + 5) ||| 2 ^ f))) := hI.per1 hk (Or.inr (Or.inr ⟨rfl, or_lt (n := 8) c2 (pow_lt2 (by omega))⟩))
    refine l_261_23 hI2 h2 (by rw [sn_upd (by omega)]; exact hk) hf hb ?_
    rw [lrS_0 h, if_neg h, e2]
    unfold mu
    rw [va_up2]
  · intro h
    rw [hb1] at h
    rw [lrS_1 h, if_pos h, ← hS, va_up_same]
