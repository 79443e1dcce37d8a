/-! THE LAW: steps of a condition (made by wip/whole/gen48.py) -/
theorem b_46_0 {X : Nat × (Nat → Int32)} {d : Nat} {p : Nat → Nat} {sg : Mg} {Q : am_R → Prop} {s : Int32} {a : Int32} {b : Int32}
    (o1 : s = nI 1011 → Q (gRv p sg (a + b)))
    (o2 : s = nI 1012 → (b ≤ a) → Q (gRv p sg 0))
    (o3 : s = nI 1012 → (¬ (b ≤ a)) → Q (gRv p sg 1))
    (o4 : s = nI 1013 → (a ≤ b) → Q (gRv p sg 0))
    (o5 : s = nI 1013 → (¬ (a ≤ b)) → Q (gRv p sg 1))
    (o6 : s = nI 1014 → Q (gRv p sg (a &&& b)))
    (o7 : (¬ (¬ (s < 1011) ∧ ¬ (1014 < s))) → Q (gRv p sg (a ||| b))) :
    gW X (d) k_46 0 [some (vI s), some (vI a), some (vI b)] [] p sg Q := by
  refine g_pure 1 (i' := 1) (lv' := [some (vI s), some (vI a), some (vI b)]) (st' := [vI s]) rfl ?_
  by_cases h1 : (¬ (s < 1011) ∧ ¬ (1014 < s))
  · obtain ⟨n2, ln2, en2⟩ := okr_of (lo := 1011) (hi := 1014) (by decide) h1
    rcases (show n2 = 1011 ∨ n2 = 1012 ∨ n2 = 1013 ∨ n2 = 1014 by omega) with rfl | rfl | rfl | rfl
    · subst en2
      refine g_swK (i' := 2) (k := 1011) rfl rfl (by decide) rfl ?_
      refine g_pure 3 (i' := 5) (lv' := [some (vI (nI 1011)), some (vI a), some (vI b)]) (st' := [vI (a + b)]) rfl ?_
      refine g_iret rfl ?_
      exact o1 rfl
    · subst en2
      refine g_swK (i' := 6) (k := 1012) rfl rfl (by decide) rfl ?_
      refine g_pure 2 (i' := 8) (lv' := [some (vI (nI 1012)), some (vI a), some (vI b)]) (st' := [vI b, vI a]) rfl ?_
      refine gW_eq (lv' := [some (vI 1012), some (vI a), some (vI b)]) (st' := [vI b, vI a]) (by rw [(show (nI 1012 : Int32) = 1012 from rfl)]) rfl rfl ?_
      refine g_if2 (i' := 11) (P := b ≤ a) rfl rfl Iff.rfl (fun h3 => ?_) (fun h3 => ?_)
      · refine g_pure 1 (i' := 12) (lv' := [some (vI 1012), some (vI a), some (vI b)]) (st' := [vI 0]) rfl ?_
        refine g_iret rfl ?_
        exact o2 rfl h3
      · refine g_pure 2 (i' := 12) (lv' := [some (vI 1012), some (vI a), some (vI b)]) (st' := [vI 1]) rfl ?_
        refine g_iret rfl ?_
        exact o3 rfl h3
    · subst en2
      refine g_swK (i' := 13) (k := 1013) rfl rfl (by decide) rfl ?_
      refine g_pure 2 (i' := 15) (lv' := [some (vI (nI 1013)), some (vI a), some (vI b)]) (st' := [vI b, vI a]) rfl ?_
      refine gW_eq (lv' := [some (vI 1013), some (vI a), some (vI b)]) (st' := [vI b, vI a]) (by rw [(show (nI 1013 : Int32) = 1013 from rfl)]) rfl rfl ?_
      refine g_if2 (i' := 18) (P := a ≤ b) rfl rfl Iff.rfl (fun h4 => ?_) (fun h4 => ?_)
      · refine g_pure 1 (i' := 19) (lv' := [some (vI 1013), some (vI a), some (vI b)]) (st' := [vI 0]) rfl ?_
        refine g_iret rfl ?_
        exact o4 rfl h4
      · refine g_pure 2 (i' := 19) (lv' := [some (vI 1013), some (vI a), some (vI b)]) (st' := [vI 1]) rfl ?_
        refine g_iret rfl ?_
        exact o5 rfl h4
    · subst en2
      refine g_swK (i' := 20) (k := 1014) rfl rfl (by decide) rfl ?_
      refine g_pure 3 (i' := 23) (lv' := [some (vI (nI 1014)), some (vI a), some (vI b)]) (st' := [vI (a &&& b)]) rfl ?_
      refine g_iret rfl ?_
      exact o6 rfl
  · refine g_swD (i' := 24) rfl (okr_out (lo := 1011) (hi := 1014) (by decide) h1) rfl ?_
    refine g_pure 3 (i' := 27) (lv' := [some (vI s), some (vI a), some (vI b)]) (st' := [vI (a ||| b)]) rfl ?_
    refine g_iret rfl ?_
    exact o7 h1

def jnd (s a b : Int32) : Int32 := if s = 1011 then a + b else if s = 1012 then (if a < b then 1 else 0) else if s = 1013 then (if b < a then 1 else 0) else if s = 1014 then a &&& b else a ||| b
theorem s_46 {X : Nat × (Nat → Int32)} {d : Nat} {p : Nat → Nat} {sg : Mg} {s a b : Int32} : gF X (d + 1) 46 [vI s, vI a, vI b] p sg (fun r => r = gRv p sg (jnd s a b)) := by
  refine g_in (cd := k_46) (nL := 3) (rc := 0) rfl trivial (g_c1 rfl) (b_46_0 ?_ ?_ ?_ ?_ ?_ ?_ ?_)
  · intro e; subst e; rfl
  · intro e h; subst e
    show _ = gRv p sg (if a < b then 1 else 0)
    rw [if_neg (Int32.not_lt.mpr h)]
  · intro e h; subst e
    show _ = gRv p sg (if a < b then 1 else 0)
    rw [if_pos (Int32.not_le.mp h)]
  · intro e h; subst e
    show _ = gRv p sg (if b < a then 1 else 0)
    rw [if_neg (Int32.not_lt.mpr h)]
  · intro e h; subst e
    show _ = gRv p sg (if b < a then 1 else 0)
    rw [if_pos (Int32.not_le.mp h)]
  · intro e; subst e; rfl
  · intro h
    have hh : ∀ k, 1011 ≤ k → k ≤ 1014 → ¬ s = nI k := by
      intro k h1 h2 e
      subst e
      exact h ⟨nI_nlt (b := 1011) (by omega) (by omega), nI_nlt (a := 1014) (by omega) (by omega)⟩
    unfold jnd
    rw [if_neg (show ¬ s = 1011 from hh 1011 (by omega) (by omega)), if_neg (show ¬ s = 1012 from hh 1012 (by omega) (by omega)), if_neg (show ¬ s = 1013 from hh 1013 (by omega) (by omega)), if_neg (show ¬ s = 1014 from hh 1014 (by omega) (by omega))]

theorem b_251_0 {X : Nat × (Nat → Int32)} {d : Nat} {p : Nat → Nat} {sg : Mg} {Q : am_R → Prop} {B : Nat} {S : Nat → Int32} (hI : Inv B S) (hS : sg 801 = S) {s : Nat} {n : Int32} {k : Nat} {v : Nat} {t : Nat} (u_s : s ≤ 10) (u_k : k ≤ 7) (u_v : v ≤ 5) (u_t : t ≤ 200600) (q1 : k < sn S 1) (q2 : v < sn S 0)
    (o1 : (s = 0) → Q (gRv p sg (nI k)))
    (o2 : (s = 1) → Q (gRv p sg (nI v)))
    (o3 : (s = 2) → Q (gRv p sg (S (17 + 16 * v + (t % (sn S 9))))))
    (o4 : (s = 3) → Q (gRv p sg (nI (t % (sn S 9)))))
    (o5 : (s = 4) → Q (gRv p sg (nI (t / (sn S 9)))))
    (o6 : (s = 5) → Q (gRv p sg (bcI (S (113 + 6 * k + 5)))))
    (o7 : (s = 6) → Q (gRv p sg (bcI (S (113 + 6 * k + 4)))))
    (o8 : (s = 7) → Q (gRv p sg (S (113 + 6 * k + 3))))
    (o9 : (s = 8) → (¬ ((((S (113 + 6 * k + 4)) >>> ((S (17 + 16 * v + (t % (sn S 9)))) &&& 31)) &&& 1) = 1)) → Q (gRv p sg 0))
    (o10 : (s = 8) → (((((S (113 + 6 * k + 4)) >>> ((S (17 + 16 * v + (t % (sn S 9)))) &&& 31)) &&& 1) = 1)) → Q (gRv p sg 1))
    (o11 : (s = 9) → (¬ ((((S 10) >>> ((S (17 + 16 * v + (t % (sn S 9)))) &&& 31)) &&& 1) = 1)) → Q (gRv p sg 0))
    (o12 : (s = 9) → (((((S 10) >>> ((S (17 + 16 * v + (t % (sn S 9)))) &&& 31)) &&& 1) = 1)) → Q (gRv p sg 1))
    (o13 : (s = 10) → Q (gRv p sg n)) :
    gW X (d + 3) k_251 0 [some (vR 800), some (vI (nI s)), some (vI n), some (vI (nI k)), some (vI (nI v)), some (vI (nI t)), none] [] p sg Q := by
  have b0 := hI.b0; have b1 := hI.b1; have b2 := hI.b2; have b3 := hI.b3; have b4 := hI.b4; have b5 := hI.b5; have b6 := hI.b6; have b7 := hI.b7; have b8 := hI.b8; have b9 := hI.b9; have b14 := hI.b14
  refine g_pure 3 (i' := 3) (lv' := [some (vR 800), some (vI (nI s)), some (vI n), some (vI (nI k)), some (vI (nI v)), some (vI (nI t)), none]) (st' := [vI (nI t), vI (nI v), vR 800]) rfl ?_
  refine g_cV1 rfl (args := [vR 800, vI (nI v), vI (nI t)]) (rest := []) rfl rfl rfl (s_232 (d := d + 1) hI hS (by omega) (by omega)) ?_
  have t1 := Nat.mod_lt (t) (y := sn S 9) (by omega)
  refine g_pure 2 (i' := 6) (lv' := [some (vR 800), some (vI (nI s)), some (vI n), some (vI (nI k)), some (vI (nI v)), some (vI (nI t)), some (vI (S (17 + 16 * v + (t % (sn S 9)))))]) (st' := [vI (nI s)]) rfl ?_
  rcases (show s = 0 ∨ s = 1 ∨ s = 2 ∨ s = 3 ∨ s = 4 ∨ s = 5 ∨ s = 6 ∨ s = 7 ∨ s = 8 ∨ s = 9 ∨ s = 10 by omega) with rfl | rfl | rfl | rfl | rfl | rfl | rfl | rfl | rfl | rfl | rfl
  · refine g_swK (i' := 7) (k := 0) rfl rfl (by decide) rfl ?_
    refine g_pure 1 (i' := 8) (lv' := [some (vR 800), some (vI (nI 0)), some (vI n), some (vI (nI k)), some (vI (nI v)), some (vI (nI t)), some (vI (S (17 + 16 * v + (t % (sn S 9)))))]) (st' := [vI (nI k)]) rfl ?_
    refine gW_eq (lv' := [some (vR 800), some (vI 0), some (vI n), some (vI (nI k)), some (vI (nI v)), some (vI (nI t)), some (vI (S (17 + 16 * v + (t % (sn S 9)))))]) (st' := [vI (nI k)]) (by rw [(show (nI 0 : Int32) = 0 from rfl)]) rfl rfl ?_
    refine g_iret rfl ?_
    exact o1 rfl
  · refine g_swK (i' := 9) (k := 1) rfl rfl (by decide) rfl ?_
    refine g_pure 1 (i' := 10) (lv' := [some (vR 800), some (vI (nI 1)), some (vI n), some (vI (nI k)), some (vI (nI v)), some (vI (nI t)), some (vI (S (17 + 16 * v + (t % (sn S 9)))))]) (st' := [vI (nI v)]) rfl ?_
    refine gW_eq (lv' := [some (vR 800), some (vI 1), some (vI n), some (vI (nI k)), some (vI (nI v)), some (vI (nI t)), some (vI (S (17 + 16 * v + (t % (sn S 9)))))]) (st' := [vI (nI v)]) (by rw [(show (nI 1 : Int32) = 1 from rfl)]) rfl rfl ?_
    refine g_iret rfl ?_
    exact o2 rfl
  · refine g_swK (i' := 11) (k := 2) rfl rfl (by decide) rfl ?_
    refine g_pure 1 (i' := 12) (lv' := [some (vR 800), some (vI (nI 2)), some (vI n), some (vI (nI k)), some (vI (nI v)), some (vI (nI t)), some (vI (S (17 + 16 * v + (t % (sn S 9)))))]) (st' := [vI (S (17 + 16 * v + (t % (sn S 9))))]) rfl ?_
    refine g_iret rfl ?_
    exact o3 rfl
  · refine g_swK (i' := 13) (k := 3) rfl rfl (by decide) rfl ?_
    refine g_pure 2 (i' := 15) (lv' := [some (vR 800), some (vI (nI 3)), some (vI n), some (vI (nI k)), some (vI (nI v)), some (vI (nI t)), some (vI (S (17 + 16 * v + (t % (sn S 9)))))]) (st' := [vR 800, vI (nI t)]) rfl ?_
    refine gW_eq (lv' := [some (vR 800), some (vI 3), some (vI n), some (vI (nI k)), some (vI (nI v)), some (vI (nI t)), some (vI (S (17 + 16 * v + (t % (sn S 9)))))]) (st' := [vR 800, vI (nI t)]) (by rw [(show (nI 3 : Int32) = 3 from rfl)]) rfl rfl ?_
    refine g_cV1 rfl (args := [vR 800]) (rest := [vI (nI t)]) rfl rfl rfl (s_199 (d := d + 2) hS) ?_
    refine g_rem rfl (g_nz (hI.c9) (by omega) (by omega)) ?_
    have t2 : (t % (sn S 9)) < sn S 9 := Nat.mod_lt _ (by omega)
    refine gW_eq (lv' := [some (vR 800), some (vI 3), some (vI n), some (vI (nI k)), some (vI (nI v)), some (vI (nI t)), some (vI (S (17 + 16 * v + (t % (sn S 9)))))]) (st' := [vI (nI (t % (sn S 9)))]) rfl (by rw [(show (nI t - nI t / S 9 * S 9) = nI (t % (sn S 9)) from (g_modN (rfl : nI t = nI t) (hI.c9) (by omega) (by omega) (by omega)))]) rfl ?_
    refine g_iret rfl ?_
    exact o4 rfl
  · refine g_swK (i' := 18) (k := 4) rfl rfl (by decide) rfl ?_
    refine g_pure 2 (i' := 20) (lv' := [some (vR 800), some (vI (nI 4)), some (vI n), some (vI (nI k)), some (vI (nI v)), some (vI (nI t)), some (vI (S (17 + 16 * v + (t % (sn S 9)))))]) (st' := [vR 800, vI (nI t)]) rfl ?_
    refine gW_eq (lv' := [some (vR 800), some (vI 4), some (vI n), some (vI (nI k)), some (vI (nI v)), some (vI (nI t)), some (vI (S (17 + 16 * v + (t % (sn S 9)))))]) (st' := [vR 800, vI (nI t)]) (by rw [(show (nI 4 : Int32) = 4 from rfl)]) rfl rfl ?_
    refine g_cV1 rfl (args := [vR 800]) (rest := [vI (nI t)]) rfl rfl rfl (s_199 (d := d + 2) hS) ?_
    refine g_div rfl (g_nz (hI.c9) (by omega) (by omega)) ?_
    have t3 : (t / (sn S 9)) ≤ t := Nat.div_le_self _ _
    refine gW_eq (lv' := [some (vR 800), some (vI 4), some (vI n), some (vI (nI k)), some (vI (nI v)), some (vI (nI t)), some (vI (S (17 + 16 * v + (t % (sn S 9)))))]) (st' := [vI (nI (t / (sn S 9)))]) rfl (by rw [(show (nI t / S 9) = nI (t / (sn S 9)) from (g_divN (rfl : nI t = nI t) (hI.c9) (by omega) (by omega) (by omega)))]) rfl ?_
    refine g_iret rfl ?_
    exact o5 rfl
  · refine g_swK (i' := 23) (k := 5) rfl rfl (by decide) rfl ?_
    refine g_pure 3 (i' := 26) (lv' := [some (vR 800), some (vI (nI 5)), some (vI n), some (vI (nI k)), some (vI (nI v)), some (vI (nI t)), some (vI (S (17 + 16 * v + (t % (sn S 9)))))]) (st' := [vI 5, vI (nI k), vR 800]) rfl ?_
    refine gW_eq (lv' := [some (vR 800), some (vI 5), some (vI n), some (vI (nI k)), some (vI (nI v)), some (vI (nI t)), some (vI (S (17 + 16 * v + (t % (sn S 9)))))]) (st' := [vI 5, vI (nI k), vR 800]) (by rw [(show (nI 5 : Int32) = 5 from rfl)]) rfl rfl ?_
    refine gW_eq (st' := [vI (nI 5), vI (nI k), vR 800]) rfl (by rw [(show (5 : Int32) = nI 5 from rfl)]) rfl ?_
    refine g_cV1 rfl (args := [vR 800, vI (nI k), vI (nI 5)]) (rest := []) rfl rfl rfl (s_238 (d := d + 2) hS (by omega) (by omega)) ?_
    refine g_cS1 rfl (args := [vI (S (113 + 6 * k + 5))]) (rest := []) rfl rfl rfl (s_317 (d := d + 2) ) ?_
    refine g_iret rfl ?_
    exact o6 rfl
  · refine g_swK (i' := 29) (k := 6) rfl rfl (by decide) rfl ?_
    refine g_pure 3 (i' := 32) (lv' := [some (vR 800), some (vI (nI 6)), some (vI n), some (vI (nI k)), some (vI (nI v)), some (vI (nI t)), some (vI (S (17 + 16 * v + (t % (sn S 9)))))]) (st' := [vI 4, vI (nI k), vR 800]) rfl ?_
    refine gW_eq (lv' := [some (vR 800), some (vI 6), some (vI n), some (vI (nI k)), some (vI (nI v)), some (vI (nI t)), some (vI (S (17 + 16 * v + (t % (sn S 9)))))]) (st' := [vI 4, vI (nI k), vR 800]) (by rw [(show (nI 6 : Int32) = 6 from rfl)]) rfl rfl ?_
    refine gW_eq (st' := [vI (nI 4), vI (nI k), vR 800]) rfl (by rw [(show (4 : Int32) = nI 4 from rfl)]) rfl ?_
    refine g_cV1 rfl (args := [vR 800, vI (nI k), vI (nI 4)]) (rest := []) rfl rfl rfl (s_238 (d := d + 2) hS (by omega) (by omega)) ?_
    refine g_cS1 rfl (args := [vI (S (113 + 6 * k + 4))]) (rest := []) rfl rfl rfl (s_317 (d := d + 2) ) ?_
    refine g_iret rfl ?_
    exact o7 rfl
  · refine g_swK (i' := 35) (k := 7) rfl rfl (by decide) rfl ?_
    refine g_pure 3 (i' := 38) (lv' := [some (vR 800), some (vI (nI 7)), some (vI n), some (vI (nI k)), some (vI (nI v)), some (vI (nI t)), some (vI (S (17 + 16 * v + (t % (sn S 9)))))]) (st' := [vI 3, vI (nI k), vR 800]) rfl ?_
    refine gW_eq (lv' := [some (vR 800), some (vI 7), some (vI n), some (vI (nI k)), some (vI (nI v)), some (vI (nI t)), some (vI (S (17 + 16 * v + (t % (sn S 9)))))]) (st' := [vI 3, vI (nI k), vR 800]) (by rw [(show (nI 7 : Int32) = 7 from rfl)]) rfl rfl ?_
    refine gW_eq (st' := [vI (nI 3), vI (nI k), vR 800]) rfl (by rw [(show (3 : Int32) = nI 3 from rfl)]) rfl ?_
    refine g_cV1 rfl (args := [vR 800, vI (nI k), vI (nI 3)]) (rest := []) rfl rfl rfl (s_238 (d := d + 2) hS (by omega) (by omega)) ?_
    refine g_iret rfl ?_
    exact o8 rfl
  · refine g_swK (i' := 40) (k := 8) rfl rfl (by decide) rfl ?_
    refine g_pure 3 (i' := 43) (lv' := [some (vR 800), some (vI (nI 8)), some (vI n), some (vI (nI k)), some (vI (nI v)), some (vI (nI t)), some (vI (S (17 + 16 * v + (t % (sn S 9)))))]) (st' := [vI 4, vI (nI k), vR 800]) rfl ?_
    refine gW_eq (lv' := [some (vR 800), some (vI 8), some (vI n), some (vI (nI k)), some (vI (nI v)), some (vI (nI t)), some (vI (S (17 + 16 * v + (t % (sn S 9)))))]) (st' := [vI 4, vI (nI k), vR 800]) (by rw [(show (nI 8 : Int32) = 8 from rfl)]) rfl rfl ?_
    refine gW_eq (st' := [vI (nI 4), vI (nI k), vR 800]) rfl (by rw [(show (4 : Int32) = nI 4 from rfl)]) rfl ?_
    refine g_cV1 rfl (args := [vR 800, vI (nI k), vI (nI 4)]) (rest := []) rfl rfl rfl (s_238 (d := d + 2) hS (by omega) (by omega)) ?_
    refine g_pure 1 (i' := 45) (lv' := [some (vR 800), some (vI 8), some (vI n), some (vI (nI k)), some (vI (nI v)), some (vI (nI t)), some (vI (S (17 + 16 * v + (t % (sn S 9)))))]) (st' := [vI (S (17 + 16 * v + (t % (sn S 9)))), vI (S (113 + 6 * k + 4))]) rfl ?_
    refine g_cS1 rfl (args := [vI (S (113 + 6 * k + 4)), vI (S (17 + 16 * v + (t % (sn S 9))))]) (rest := []) rfl rfl rfl (s_201 (d := d + 2) ) ?_
    refine g_if1 (i' := 49) (P := ¬ ((((S (113 + 6 * k + 4)) >>> ((S (17 + 16 * v + (t % (sn S 9)))) &&& 31)) &&& 1) = 1)) rfl rfl g_eqB (fun h4 => ?_) (fun h4 => ?_)
    · refine g_pure 1 (i' := 50) (lv' := [some (vR 800), some (vI 8), some (vI n), some (vI (nI k)), some (vI (nI v)), some (vI (nI t)), some (vI (S (17 + 16 * v + (t % (sn S 9)))))]) (st' := [vI 0]) rfl ?_
      refine g_iret rfl ?_
      exact o9 rfl h4
    · have h4 := Classical.not_not.mp h4
      refine g_pure 2 (i' := 50) (lv' := [some (vR 800), some (vI 8), some (vI n), some (vI (nI k)), some (vI (nI v)), some (vI (nI t)), some (vI (S (17 + 16 * v + (t % (sn S 9)))))]) (st' := [vI 1]) rfl ?_
      refine g_iret rfl ?_
      exact o10 rfl h4
  · refine g_swK (i' := 51) (k := 9) rfl rfl (by decide) rfl ?_
    refine g_pure 3 (i' := 54) (lv' := [some (vR 800), some (vI (nI 9)), some (vI n), some (vI (nI k)), some (vI (nI v)), some (vI (nI t)), some (vI (S (17 + 16 * v + (t % (sn S 9)))))]) (st' := [vI 10, vR 801]) rfl ?_
    refine gW_eq (lv' := [some (vR 800), some (vI 9), some (vI n), some (vI (nI k)), some (vI (nI v)), some (vI (nI t)), some (vI (S (17 + 16 * v + (t % (sn S 9)))))]) (st' := [vI 10, vR 801]) (by rw [(show (nI 9 : Int32) = 9 from rfl)]) rfl rfl ?_
    refine g_ald rfl (g_A (a := 801) (kd := 1) (n := 2407) rfl (by decide)) (by decide) (show 10 = nI 10 from (show (10 : Int32) = nI 10 from rfl)) (by decide) (show _ = S 10 from (congrFun hS 10)) ?_
    refine g_pure 1 (i' := 56) (lv' := [some (vR 800), some (vI 9), some (vI n), some (vI (nI k)), some (vI (nI v)), some (vI (nI t)), some (vI (S (17 + 16 * v + (t % (sn S 9)))))]) (st' := [vI (S (17 + 16 * v + (t % (sn S 9)))), vI (S 10)]) rfl ?_
    refine g_cS1 rfl (args := [vI (S 10), vI (S (17 + 16 * v + (t % (sn S 9))))]) (rest := []) rfl rfl rfl (s_201 (d := d + 2) ) ?_
    refine g_if1 (i' := 60) (P := ¬ ((((S 10) >>> ((S (17 + 16 * v + (t % (sn S 9)))) &&& 31)) &&& 1) = 1)) rfl rfl g_eqB (fun h5 => ?_) (fun h5 => ?_)
    · refine g_pure 1 (i' := 61) (lv' := [some (vR 800), some (vI 9), some (vI n), some (vI (nI k)), some (vI (nI v)), some (vI (nI t)), some (vI (S (17 + 16 * v + (t % (sn S 9)))))]) (st' := [vI 0]) rfl ?_
      refine g_iret rfl ?_
      exact o11 rfl h5
    · have h5 := Classical.not_not.mp h5
      refine g_pure 2 (i' := 61) (lv' := [some (vR 800), some (vI 9), some (vI n), some (vI (nI k)), some (vI (nI v)), some (vI (nI t)), some (vI (S (17 + 16 * v + (t % (sn S 9)))))]) (st' := [vI 1]) rfl ?_
      refine g_iret rfl ?_
      exact o12 rfl h5
  · refine g_swD (i' := 62) rfl (by decide) rfl ?_
    refine g_pure 1 (i' := 63) (lv' := [some (vR 800), some (vI (nI 10)), some (vI n), some (vI (nI k)), some (vI (nI v)), some (vI (nI t)), some (vI (S (17 + 16 * v + (t % (sn S 9)))))]) (st' := [vI n]) rfl ?_
    refine g_iret rfl ?_
    exact o13 rfl

/-- what a condition can name: the person, the village, the day, the page, the printing, how many facts and days, the coins, again, feast -/
def scf (S : Nat → Int32) (k v t : Nat) (i : Nat) : Int32 := if i = 0 then nI k else if i = 1 then nI v else if i = 2 then S (17 + 16 * v + t % sn S 9) else if i = 3 then nI (t % sn S 9) else if i = 4 then nI (t / sn S 9) else if i = 5 then bcI (S (113 + 6 * k + 5)) else if i = 6 then bcI (S (113 + 6 * k + 4)) else if i = 7 then S (113 + 6 * k + 3) else if i = 8 then (S (113 + 6 * k + 4) >>> (S (17 + 16 * v + t % sn S 9) &&& 31)) &&& 1 else (S 10 >>> (S (17 + 16 * v + t % sn S 9) &&& 31)) &&& 1
theorem i32_bit (x : Int32) : x &&& 1 = 0 ∨ x &&& 1 = 1 := by
  have h : (x &&& 1).toBitVec = 0#32 ∨ (x &&& 1).toBitVec = 1#32 := by
    rw [Int32.toBitVec_and]
    show x.toBitVec &&& 1#32 = 0#32 ∨ x.toBitVec &&& 1#32 = 1#32
    rcases Bool.eq_false_or_eq_true (x.toBitVec.getLsbD 0) with hb | hb
    · right
      apply BitVec.eq_of_getLsbD_eq
      intro i hi
      rw [BitVec.getLsbD_and, BitVec.getLsbD_one]
      by_cases h0 : i = 0
      · subst h0; simp [hb]
      · simp [h0]
    · left
      apply BitVec.eq_of_getLsbD_eq
      intro i hi
      rw [BitVec.getLsbD_and, BitVec.getLsbD_one]
      by_cases h0 : i = 0
      · subst h0; rw [hb]; rfl
      · simp [h0]
  rcases h with h | h
  · left; exact bvI_inj h
  · right; exact bvI_inj h
theorem s_251 {X : Nat × (Nat → Int32)} {d : Nat} {p : Nat → Nat} {sg : Mg} {B : Nat} {S : Nat → Int32} (hI : Inv B S) (hS : sg 801 = S) {s k v t : Nat} {n : Int32} (hs : s ≤ 10) (hk : k < sn S 1) (hv : v < sn S 0) (ht : t ≤ 200600) : gF X (d + 4) 251 [vR 800, vI (nI s), vI n, vI (nI k), vI (nI v), vI (nI t)] p sg (fun r => r = gRv p sg (if s = 10 then n else scf S k v t s)) := by
  have b0 := hI.b0; have b1 := hI.b1
  refine g_in (cd := k_251) (nL := 7) (rc := 13) rfl (g_A (a := 800) (kd := 0) (n := 12) rfl (by decide)) (g_c1 rfl) (b_251_0 hI hS hs (by omega) (by omega) ht hk hv ?_ ?_ ?_ ?_ ?_ ?_ ?_ ?_ ?_ ?_ ?_ ?_ ?_)
  · intro e; subst e; rfl
  · intro e; subst e; rfl
  · intro e; subst e; rfl
  · intro e; subst e; rfl
  · intro e; subst e; rfl
  · intro e; subst e; rfl
  · intro e; subst e; rfl
  · intro e; subst e; rfl
  · intro e h; subst e
    refine congrArg (gRv p sg) ?_
    show (0 : Int32) = ((S (113 + 6 * k + 4)) >>> _) &&& 1
    rcases i32_bit ((S (113 + 6 * k + 4)) >>> (S (17 + 16 * v + t % sn S 9) &&& 31)) with h9 | h9
    · exact h9.symm
    · exact absurd h9 h
  · intro e h; subst e; exact congrArg (gRv p sg) h.symm
  · intro e h; subst e
    refine congrArg (gRv p sg) ?_
    show (0 : Int32) = (S 10 >>> _) &&& 1
    rcases i32_bit (S 10 >>> (S (17 + 16 * v + t % sn S 9) &&& 31)) with h9 | h9
    · exact h9.symm
    · exact absurd h9 h
  · intro e h; subst e; exact congrArg (gRv p sg) h.symm
  · intro e; subst e; rfl

theorem b_45_sc {X : Nat × (Nat → Int32)} {d : Nat} {p : Nat → Nat} {sg : Mg} {Q : am_R → Prop} {e : Nat} {s : Nat} {n : Nat} {z : Option AV} {t : Nat} {j : Nat} {z6 : Option AV} (u_n : n ≤ 11) (u_t : t ≤ 40) (u_j : j ≤ 399) (q1 : j < e) (q2 : e ≤ 400) (q3 : s ≤ 9) (q4 : t ≤ 39) (hj : sg 211 n = nI e) (hc : sg 212 j = nI (1000 + s))
    (o1 : ∀ s5 : Mg, s5 = mu sg 213 t (sg 201 s) → gW X (d + 1) k_45 15 [some (vR 208), some (vI (nI n)), some (vR 201), z, some (vI (nI (t + 1))), some (vI (nI (j + 1))), some (vI (nI (1000 + s)))] [] p s5 Q) :
    gW X (d + 1) k_45 15 [some (vR 208), some (vI (nI n)), some (vR 201), z, some (vI (nI t)), some (vI (nI j)), z6] [] p sg Q := by
  refine g_pure 4 (i' := 19) (lv' := [some (vR 208), some (vI (nI n)), some (vR 201), z, some (vI (nI t)), some (vI (nI j)), z6]) (st' := [vI (nI n), vR 211, vI (nI j)]) rfl ?_
  refine g_ald rfl (g_A (a := 211) (kd := 1) (n := 12) rfl (by decide)) (by decide) (show nI n = nI n from (rfl : nI n = nI n)) (by omega) (show _ = nI e from hj) ?_
  refine g_if2 (i' := 94) (P := e ≤ j) rfl rfl (g_geN (show nI j = nI j from (rfl : nI j = nI j)) (show nI e = nI e from (rfl : nI e = nI e)) (by omega) (by omega)) (fun h1 => absurd h1 (by omega)) (fun _ => ?_)
  refine g_pure 3 (i' := 24) (lv' := [some (vR 208), some (vI (nI n)), some (vR 201), z, some (vI (nI t)), some (vI (nI j)), z6]) (st' := [vI (nI j), vR 212]) rfl ?_
  refine g_ald rfl (g_A (a := 212) (kd := 1) (n := 400) rfl (by decide)) (by decide) (show nI j = nI j from (rfl : nI j = nI j)) (by omega) (show _ = nI (1000 + s) from hc) ?_
  refine g_pure 3 (i' := 28) (lv' := [some (vR 208), some (vI (nI n)), some (vR 201), z, some (vI (nI t)), some (vI (nI j)), some (vI (nI (1000 + s)))]) (st' := [vI 1010, vI (nI (1000 + s))]) rfl ?_
  refine g_if2 (i' := 50) (P := 1010 ≤ 1000 + s) rfl rfl (g_geN (show nI (1000 + s) = nI (1000 + s) from (rfl : nI (1000 + s) = nI (1000 + s))) (show 1010 = nI 1010 from (show (1010 : Int32) = nI 1010 from rfl)) (by omega) (by omega)) (fun h2 => absurd h2 (by omega)) (fun _ => ?_)
  refine g_pure 3 (i' := 32) (lv' := [some (vR 208), some (vI (nI n)), some (vR 201), z, some (vI (nI t)), some (vI (nI j)), some (vI (nI (1000 + s)))]) (st' := [vR 213, vI (nI t)]) rfl ?_
  refine g_len rfl (by decide) (by decide) (g_A (a := 213) (kd := 1) (n := 40) rfl (by decide)) ?_
  refine gW_eq (lv' := [some (vR 208), some (vI (nI n)), some (vR 201), z, some (vI (nI t)), some (vI (nI j)), some (vI (nI (1000 + s)))]) (st' := [vI 40, vI (nI t)]) rfl (by rw [(show (nI 40 : Int32) = 40 from rfl)]) rfl ?_
  refine g_if2 (i' := 92) (P := 40 ≤ t) rfl rfl (g_geN (show nI t = nI t from (rfl : nI t = nI t)) (show 40 = nI 40 from (show (40 : Int32) = nI 40 from rfl)) (by omega) (by omega)) (fun h3 => absurd h3 (by omega)) (fun _ => ?_)
  refine g_pure 5 (i' := 39) (lv' := [some (vR 208), some (vI (nI n)), some (vR 201), z, some (vI (nI t)), some (vI (nI j)), some (vI (nI (1000 + s)))]) (st' := [vI 1000, vI (nI (1000 + s)), vI (nI t), vR 213]) rfl ?_
  refine g_if2 (i' := 42) (P := 1000 ≤ 1000 + s) rfl rfl (g_geN (show nI (1000 + s) = nI (1000 + s) from (rfl : nI (1000 + s) = nI (1000 + s))) (show 1000 = nI 1000 from (show (1000 : Int32) = nI 1000 from rfl)) (by omega) (by omega)) (fun _ => ?_) (fun h4 => absurd (by omega) h4)
  refine g_pure 4 (i' := 46) (lv' := [some (vR 208), some (vI (nI n)), some (vR 201), z, some (vI (nI t)), some (vI (nI j)), some (vI (nI (1000 + s)))]) (st' := [vI (nI (1000 + s) - 1000), vR 201, vI (nI t), vR 213]) rfl ?_
  refine gW_eq (lv' := [some (vR 208), some (vI (nI n)), some (vR 201), z, some (vI (nI t)), some (vI (nI j)), some (vI (nI (1000 + s)))]) (st' := [vI (nI s), vR 201, vI (nI t), vR 213]) rfl (by rw [(show (nI (1000 + s) - 1000) = nI s from ((g_sub (rfl : nI (1000 + s) = nI (1000 + s)) (show (1000 : Int32) = nI 1000 from rfl) (by omega))).trans (congrArg nI (by omega)))]) rfl ?_
  refine g_ald rfl (g_A (a := 201) (kd := 1) (n := 10) rfl (by decide)) (by decide) (show nI s = nI s from (rfl : nI s = nI s)) (by omega) (show _ = sg 201 s from rfl) ?_
  refine g_ast rfl (g_A (a := 213) (kd := 1) (n := 40) rfl (by decide)) (by decide) (show nI t = nI t from (rfl : nI t = nI t)) (by omega) ?_
  refine g_setv (fun s5 es5 => ?_)
  refine g_pure 4 (i' := 15) (lv' := [some (vR 208), some (vI (nI n)), some (vR 201), z, some (vI (nI t + 1)), some (vI (nI j + 1)), some (vI (nI (1000 + s)))]) (st' := []) rfl ?_
  refine gW_eq (lv' := [some (vR 208), some (vI (nI n)), some (vR 201), z, some (vI (nI (t + 1))), some (vI (nI (j + 1))), some (vI (nI (1000 + s)))]) (st' := []) (by rw [(show (nI t + 1) = nI (t + 1) from ((g_add (rfl : nI t = nI t) (show (1 : Int32) = nI 1 from rfl))).trans (congrArg nI (by omega))), (show (nI j + 1) = nI (j + 1) from ((g_add (rfl : nI j = nI j) (show (1 : Int32) = nI 1 from rfl))).trans (congrArg nI (by omega)))]) rfl rfl ?_
  exact o1 s5 es5

theorem b_45_to {X : Nat × (Nat → Int32)} {d : Nat} {p : Nat → Nat} {sg : Mg} {Q : am_R → Prop} {e : Nat} {c : Nat} {n : Nat} {z : Option AV} {t : Nat} {j : Nat} {z6 : Option AV} (u_n : n ≤ 11) (u_t : t ≤ 40) (u_j : j ≤ 399) (q1 : j < e) (q2 : e ≤ 400) (q3 : c ≤ 999) (q4 : t ≤ 39) (hj : sg 211 n = nI e) (hc : sg 212 j = nI c)
    (o1 : ∀ s5 : Mg, s5 = mu sg 213 t (nI c) → gW X (d + 1) k_45 15 [some (vR 208), some (vI (nI n)), some (vR 201), z, some (vI (nI (t + 1))), some (vI (nI (j + 1))), some (vI (nI c))] [] p s5 Q) :
    gW X (d + 1) k_45 15 [some (vR 208), some (vI (nI n)), some (vR 201), z, some (vI (nI t)), some (vI (nI j)), z6] [] p sg Q := by
  refine g_pure 4 (i' := 19) (lv' := [some (vR 208), some (vI (nI n)), some (vR 201), z, some (vI (nI t)), some (vI (nI j)), z6]) (st' := [vI (nI n), vR 211, vI (nI j)]) rfl ?_
  refine g_ald rfl (g_A (a := 211) (kd := 1) (n := 12) rfl (by decide)) (by decide) (show nI n = nI n from (rfl : nI n = nI n)) (by omega) (show _ = nI e from hj) ?_
  refine g_if2 (i' := 94) (P := e ≤ j) rfl rfl (g_geN (show nI j = nI j from (rfl : nI j = nI j)) (show nI e = nI e from (rfl : nI e = nI e)) (by omega) (by omega)) (fun h1 => absurd h1 (by omega)) (fun _ => ?_)
  refine g_pure 3 (i' := 24) (lv' := [some (vR 208), some (vI (nI n)), some (vR 201), z, some (vI (nI t)), some (vI (nI j)), z6]) (st' := [vI (nI j), vR 212]) rfl ?_
  refine g_ald rfl (g_A (a := 212) (kd := 1) (n := 400) rfl (by decide)) (by decide) (show nI j = nI j from (rfl : nI j = nI j)) (by omega) (show _ = nI c from hc) ?_
  refine g_pure 3 (i' := 28) (lv' := [some (vR 208), some (vI (nI n)), some (vR 201), z, some (vI (nI t)), some (vI (nI j)), some (vI (nI c))]) (st' := [vI 1010, vI (nI c)]) rfl ?_
  refine g_if2 (i' := 50) (P := 1010 ≤ c) rfl rfl (g_geN (show nI c = nI c from (rfl : nI c = nI c)) (show 1010 = nI 1010 from (show (1010 : Int32) = nI 1010 from rfl)) (by omega) (by omega)) (fun h2 => absurd h2 (by omega)) (fun _ => ?_)
  refine g_pure 3 (i' := 32) (lv' := [some (vR 208), some (vI (nI n)), some (vR 201), z, some (vI (nI t)), some (vI (nI j)), some (vI (nI c))]) (st' := [vR 213, vI (nI t)]) rfl ?_
  refine g_len rfl (by decide) (by decide) (g_A (a := 213) (kd := 1) (n := 40) rfl (by decide)) ?_
  refine gW_eq (lv' := [some (vR 208), some (vI (nI n)), some (vR 201), z, some (vI (nI t)), some (vI (nI j)), some (vI (nI c))]) (st' := [vI 40, vI (nI t)]) rfl (by rw [(show (nI 40 : Int32) = 40 from rfl)]) rfl ?_
  refine g_if2 (i' := 92) (P := 40 ≤ t) rfl rfl (g_geN (show nI t = nI t from (rfl : nI t = nI t)) (show 40 = nI 40 from (show (40 : Int32) = nI 40 from rfl)) (by omega) (by omega)) (fun h3 => absurd h3 (by omega)) (fun _ => ?_)
  refine g_pure 5 (i' := 39) (lv' := [some (vR 208), some (vI (nI n)), some (vR 201), z, some (vI (nI t)), some (vI (nI j)), some (vI (nI c))]) (st' := [vI 1000, vI (nI c), vI (nI t), vR 213]) rfl ?_
  refine g_if2 (i' := 42) (P := 1000 ≤ c) rfl rfl (g_geN (show nI c = nI c from (rfl : nI c = nI c)) (show 1000 = nI 1000 from (show (1000 : Int32) = nI 1000 from rfl)) (by omega) (by omega)) (fun h4 => absurd h4 (by omega)) (fun _ => ?_)
  refine g_pure 2 (i' := 47) (lv' := [some (vR 208), some (vI (nI n)), some (vR 201), z, some (vI (nI t)), some (vI (nI j)), some (vI (nI c))]) (st' := [vI (nI c), vI (nI t), vR 213]) rfl ?_
  refine g_ast rfl (g_A (a := 213) (kd := 1) (n := 40) rfl (by decide)) (by decide) (show nI t = nI t from (rfl : nI t = nI t)) (by omega) ?_
  refine g_setv (fun s5 es5 => ?_)
  refine g_pure 4 (i' := 15) (lv' := [some (vR 208), some (vI (nI n)), some (vR 201), z, some (vI (nI t + 1)), some (vI (nI j + 1)), some (vI (nI c))]) (st' := []) rfl ?_
  refine gW_eq (lv' := [some (vR 208), some (vI (nI n)), some (vR 201), z, some (vI (nI (t + 1))), some (vI (nI (j + 1))), some (vI (nI c))]) (st' := []) (by rw [(show (nI t + 1) = nI (t + 1) from ((g_add (rfl : nI t = nI t) (show (1 : Int32) = nI 1 from rfl))).trans (congrArg nI (by omega))), (show (nI j + 1) = nI (j + 1) from ((g_add (rfl : nI j = nI j) (show (1 : Int32) = nI 1 from rfl))).trans (congrArg nI (by omega)))]) rfl rfl ?_
  exact o1 s5 es5

theorem b_45_no {X : Nat × (Nat → Int32)} {d : Nat} {p : Nat → Nat} {sg : Mg} {Q : am_R → Prop} {e : Nat} {n : Nat} {z : Option AV} {t : Nat} {j : Nat} {z6 : Option AV} (u_n : n ≤ 11) (u_t : t ≤ 40) (u_j : j ≤ 399) (q1 : j < e) (q2 : e ≤ 400) (q3 : 1 ≤ t) (hj : sg 211 n = nI e) (hc : sg 212 j = nI 1010)
    (o1 : ∀ s5 : Mg, s5 = mu sg 213 (t - 1) (1 - sg 213 (t - 1)) → gW X (d + 1) k_45 15 [some (vR 208), some (vI (nI n)), some (vR 201), z, some (vI (nI t)), some (vI (nI (j + 1))), some (vI 1010)] [] p s5 Q) :
    gW X (d + 1) k_45 15 [some (vR 208), some (vI (nI n)), some (vR 201), z, some (vI (nI t)), some (vI (nI j)), z6] [] p sg Q := by
  refine g_pure 4 (i' := 19) (lv' := [some (vR 208), some (vI (nI n)), some (vR 201), z, some (vI (nI t)), some (vI (nI j)), z6]) (st' := [vI (nI n), vR 211, vI (nI j)]) rfl ?_
  refine g_ald rfl (g_A (a := 211) (kd := 1) (n := 12) rfl (by decide)) (by decide) (show nI n = nI n from (rfl : nI n = nI n)) (by omega) (show _ = nI e from hj) ?_
  refine g_if2 (i' := 94) (P := e ≤ j) rfl rfl (g_geN (show nI j = nI j from (rfl : nI j = nI j)) (show nI e = nI e from (rfl : nI e = nI e)) (by omega) (by omega)) (fun h1 => absurd h1 (by omega)) (fun _ => ?_)
  refine g_pure 3 (i' := 24) (lv' := [some (vR 208), some (vI (nI n)), some (vR 201), z, some (vI (nI t)), some (vI (nI j)), z6]) (st' := [vI (nI j), vR 212]) rfl ?_
  refine g_ald rfl (g_A (a := 212) (kd := 1) (n := 400) rfl (by decide)) (by decide) (show nI j = nI j from (rfl : nI j = nI j)) (by omega) (show _ = nI 1010 from hc) ?_
  refine g_pure 3 (i' := 28) (lv' := [some (vR 208), some (vI (nI n)), some (vR 201), z, some (vI (nI t)), some (vI (nI j)), some (vI (nI 1010))]) (st' := [vI 1010, vI (nI 1010)]) rfl ?_
  refine gW_eq (lv' := [some (vR 208), some (vI (nI n)), some (vR 201), z, some (vI (nI t)), some (vI (nI j)), some (vI 1010)]) (st' := [vI 1010, vI 1010]) (by rw [(show (nI 1010 : Int32) = 1010 from rfl)]) (by rw [(show (nI 1010 : Int32) = 1010 from rfl)]) rfl ?_
  refine g_if2 (i' := 50) (P := 1010 ≤ 1010) rfl rfl (g_geN (show 1010 = nI 1010 from (show (1010 : Int32) = nI 1010 from rfl)) (show 1010 = nI 1010 from (show (1010 : Int32) = nI 1010 from rfl)) (by omega) (by omega)) (fun _ => ?_) (fun h2 => absurd (by omega) h2)
  refine g_pure 2 (i' := 52) (lv' := [some (vR 208), some (vI (nI n)), some (vR 201), z, some (vI (nI t)), some (vI (nI j)), some (vI 1010)]) (st' := [vI 1010, vI 1010]) rfl ?_
  refine g_if2 (i' := 70) (P := ¬ 1010 = 1010) rfl rfl (g_neN (show 1010 = nI 1010 from (show (1010 : Int32) = nI 1010 from rfl)) (show 1010 = nI 1010 from (show (1010 : Int32) = nI 1010 from rfl)) (by omega) (by omega)) (fun h3 => absurd h3 (by omega)) (fun _ => ?_)
  refine g_pure 1 (i' := 54) (lv' := [some (vR 208), some (vI (nI n)), some (vR 201), z, some (vI (nI t)), some (vI (nI j)), some (vI 1010)]) (st' := [vI (nI t)]) rfl ?_
  refine g_if1 (i' := 92) (P := t ≤ 0) rfl rfl (g_leN (show nI t = nI t from (rfl : nI t = nI t)) (show 0 = nI 0 from (show (0 : Int32) = nI 0 from rfl)) (by omega) (by omega)) (fun h4 => absurd h4 (by omega)) (fun _ => ?_)
  refine g_pure 11 (i' := 66) (lv' := [some (vR 208), some (vI (nI n)), some (vR 201), z, some (vI (nI t)), some (vI (nI j)), some (vI 1010)]) (st' := [vI (nI t - 1), vR 213, vI 1, vI (nI t - 1), vR 213]) rfl ?_
  refine gW_eq (lv' := [some (vR 208), some (vI (nI n)), some (vR 201), z, some (vI (nI t)), some (vI (nI j)), some (vI 1010)]) (st' := [vI (nI (t - 1)), vR 213, vI 1, vI (nI (t - 1)), vR 213]) rfl (by rw [(show (nI t - 1) = nI (t - 1) from (g_sub (rfl : nI t = nI t) (show (1 : Int32) = nI 1 from rfl) (by omega)))]) rfl ?_
  refine g_ald rfl (g_A (a := 213) (kd := 1) (n := 40) rfl (by decide)) (by decide) (show nI (t - 1) = nI (t - 1) from (rfl : nI (t - 1) = nI (t - 1))) (by omega) (show _ = sg 213 (t - 1) from rfl) ?_
  refine g_pure 1 (i' := 68) (lv' := [some (vR 208), some (vI (nI n)), some (vR 201), z, some (vI (nI t)), some (vI (nI j)), some (vI 1010)]) (st' := [vI (1 - sg 213 (t - 1)), vI (nI (t - 1)), vR 213]) rfl ?_
  refine g_ast rfl (g_A (a := 213) (kd := 1) (n := 40) rfl (by decide)) (by decide) (show nI (t - 1) = nI (t - 1) from (rfl : nI (t - 1) = nI (t - 1))) (by omega) ?_
  refine g_setv (fun s5 es5 => ?_)
  refine g_pure 3 (i' := 15) (lv' := [some (vR 208), some (vI (nI n)), some (vR 201), z, some (vI (nI t)), some (vI (nI j + 1)), some (vI 1010)]) (st' := []) rfl ?_
  refine gW_eq (lv' := [some (vR 208), some (vI (nI n)), some (vR 201), z, some (vI (nI t)), some (vI (nI (j + 1))), some (vI 1010)]) (st' := []) (by rw [(show (nI j + 1) = nI (j + 1) from ((g_add (rfl : nI j = nI j) (show (1 : Int32) = nI 1 from rfl))).trans (congrArg nI (by omega)))]) rfl rfl ?_
  exact o1 s5 es5

theorem b_45_bi {X : Nat × (Nat → Int32)} {d : Nat} {p : Nat → Nat} {sg : Mg} {Q : am_R → Prop} {e : Nat} {c : Nat} {n : Nat} {z : Option AV} {t : Nat} {j : Nat} {z6 : Option AV} (u_n : n ≤ 11) (u_t : t ≤ 40) (u_j : j ≤ 399) (q1 : j < e) (q2 : e ≤ 400) (q3 : 1011 ≤ c) (q4 : c ≤ 1015) (q5 : 2 ≤ t) (hj : sg 211 n = nI e) (hc : sg 212 j = nI c)
    (o1 : ∀ s5 : Mg, s5 = mu sg 213 ((t - 1) - 1) (jnd (nI c) (sg 213 ((t - 1) - 1)) (sg 213 (t - 1))) → gW X (d + 1) k_45 15 [some (vR 208), some (vI (nI n)), some (vR 201), z, some (vI (nI (t - 1))), some (vI (nI (j + 1))), some (vI (nI c))] [] p s5 Q) :
    gW X (d + 1) k_45 15 [some (vR 208), some (vI (nI n)), some (vR 201), z, some (vI (nI t)), some (vI (nI j)), z6] [] p sg Q := by
  refine g_pure 4 (i' := 19) (lv' := [some (vR 208), some (vI (nI n)), some (vR 201), z, some (vI (nI t)), some (vI (nI j)), z6]) (st' := [vI (nI n), vR 211, vI (nI j)]) rfl ?_
  refine g_ald rfl (g_A (a := 211) (kd := 1) (n := 12) rfl (by decide)) (by decide) (show nI n = nI n from (rfl : nI n = nI n)) (by omega) (show _ = nI e from hj) ?_
  refine g_if2 (i' := 94) (P := e ≤ j) rfl rfl (g_geN (show nI j = nI j from (rfl : nI j = nI j)) (show nI e = nI e from (rfl : nI e = nI e)) (by omega) (by omega)) (fun h1 => absurd h1 (by omega)) (fun _ => ?_)
  refine g_pure 3 (i' := 24) (lv' := [some (vR 208), some (vI (nI n)), some (vR 201), z, some (vI (nI t)), some (vI (nI j)), z6]) (st' := [vI (nI j), vR 212]) rfl ?_
  refine g_ald rfl (g_A (a := 212) (kd := 1) (n := 400) rfl (by decide)) (by decide) (show nI j = nI j from (rfl : nI j = nI j)) (by omega) (show _ = nI c from hc) ?_
  refine g_pure 3 (i' := 28) (lv' := [some (vR 208), some (vI (nI n)), some (vR 201), z, some (vI (nI t)), some (vI (nI j)), some (vI (nI c))]) (st' := [vI 1010, vI (nI c)]) rfl ?_
  refine g_if2 (i' := 50) (P := 1010 ≤ c) rfl rfl (g_geN (show nI c = nI c from (rfl : nI c = nI c)) (show 1010 = nI 1010 from (show (1010 : Int32) = nI 1010 from rfl)) (by omega) (by omega)) (fun _ => ?_) (fun h2 => absurd (by omega) h2)
  refine g_pure 2 (i' := 52) (lv' := [some (vR 208), some (vI (nI n)), some (vR 201), z, some (vI (nI t)), some (vI (nI j)), some (vI (nI c))]) (st' := [vI 1010, vI (nI c)]) rfl ?_
  refine g_if2 (i' := 70) (P := ¬ c = 1010) rfl rfl (g_neN (show nI c = nI c from (rfl : nI c = nI c)) (show 1010 = nI 1010 from (show (1010 : Int32) = nI 1010 from rfl)) (by omega) (by omega)) (fun _ => ?_) (fun h3 => absurd (by omega) h3)
  refine g_pure 2 (i' := 72) (lv' := [some (vR 208), some (vI (nI n)), some (vR 201), z, some (vI (nI t)), some (vI (nI j)), some (vI (nI c))]) (st' := [vI 1, vI (nI t)]) rfl ?_
  refine g_if2 (i' := 92) (P := t ≤ 1) rfl rfl (g_leN (show nI t = nI t from (rfl : nI t = nI t)) (show 1 = nI 1 from (show (1 : Int32) = nI 1 from rfl)) (by omega) (by omega)) (fun h4 => absurd h4 (by omega)) (fun _ => ?_)
  refine g_pure 5 (i' := 78) (lv' := [some (vR 208), some (vI (nI n)), some (vR 201), z, some (vI (nI t + -1)), some (vI (nI j)), some (vI (nI c))]) (st' := [vI 1, vI (nI t + -1), vR 213]) rfl ?_
  refine gW_eq (lv' := [some (vR 208), some (vI (nI n)), some (vR 201), z, some (vI (nI (t - 1))), some (vI (nI j)), some (vI (nI c))]) (st' := [vI 1, vI (nI (t - 1)), vR 213]) (by rw [(show (nI t + -1) = nI (t - 1) from (g_dec (rfl : nI t = nI t) (by omega)))]) (by rw [(show (nI t + -1) = nI (t - 1) from (g_dec (rfl : nI t = nI t) (by omega)))]) rfl ?_
  refine g_pure 7 (i' := 85) (lv' := [some (vR 208), some (vI (nI n)), some (vR 201), z, some (vI (nI (t - 1))), some (vI (nI j)), some (vI (nI c))]) (st' := [vI (nI (t - 1) - 1), vR 213, vI (nI c), vI (nI (t - 1) - 1), vR 213]) rfl ?_
  refine gW_eq (lv' := [some (vR 208), some (vI (nI n)), some (vR 201), z, some (vI (nI (t - 1))), some (vI (nI j)), some (vI (nI c))]) (st' := [vI (nI ((t - 1) - 1)), vR 213, vI (nI c), vI (nI ((t - 1) - 1)), vR 213]) rfl (by rw [(show (nI (t - 1) - 1) = nI ((t - 1) - 1) from (g_sub (rfl : nI (t - 1) = nI (t - 1)) (show (1 : Int32) = nI 1 from rfl) (by omega)))]) rfl ?_
  refine g_ald rfl (g_A (a := 213) (kd := 1) (n := 40) rfl (by decide)) (by decide) (show nI ((t - 1) - 1) = nI ((t - 1) - 1) from (rfl : nI ((t - 1) - 1) = nI ((t - 1) - 1))) (by omega) (show _ = sg 213 ((t - 1) - 1) from rfl) ?_
  refine g_pure 3 (i' := 89) (lv' := [some (vR 208), some (vI (nI n)), some (vR 201), z, some (vI (nI (t - 1))), some (vI (nI j)), some (vI (nI c))]) (st' := [vI (nI (t - 1)), vR 213, vI (sg 213 ((t - 1) - 1)), vI (nI c), vI (nI ((t - 1) - 1)), vR 213]) rfl ?_
  refine g_ald rfl (g_A (a := 213) (kd := 1) (n := 40) rfl (by decide)) (by decide) (show nI (t - 1) = nI (t - 1) from (rfl : nI (t - 1) = nI (t - 1))) (by omega) (show _ = sg 213 (t - 1) from rfl) ?_
  refine g_cS1 rfl (args := [vI (nI c), vI (sg 213 ((t - 1) - 1)), vI (sg 213 (t - 1))]) (rest := [vI (nI ((t - 1) - 1)), vR 213]) rfl rfl rfl (s_46 (d := d) ) ?_
  refine g_ast rfl (g_A (a := 213) (kd := 1) (n := 40) rfl (by decide)) (by decide) (show nI ((t - 1) - 1) = nI ((t - 1) - 1) from (rfl : nI ((t - 1) - 1) = nI ((t - 1) - 1))) (by omega) ?_
  refine g_setv (fun s5 es5 => ?_)
  refine g_pure 2 (i' := 15) (lv' := [some (vR 208), some (vI (nI n)), some (vR 201), z, some (vI (nI (t - 1))), some (vI (nI j + 1)), some (vI (nI c))]) (st' := []) rfl ?_
  refine gW_eq (lv' := [some (vR 208), some (vI (nI n)), some (vR 201), z, some (vI (nI (t - 1))), some (vI (nI (j + 1))), some (vI (nI c))]) (st' := []) (by rw [(show (nI j + 1) = nI (j + 1) from ((g_add (rfl : nI j = nI j) (show (1 : Int32) = nI 1 from rfl))).trans (congrArg nI (by omega)))]) rfl rfl ?_
  exact o1 s5 es5

theorem b_45_end {X : Nat × (Nat → Int32)} {d : Nat} {p : Nat → Nat} {sg : Mg} {Q : am_R → Prop} {n : Nat} {z : Option AV} {t : Nat} {j : Nat} {z6 : Option AV} (u_n : n ≤ 11) (u_t : t ≤ 40) (u_j : j ≤ 400) (hj : sg 211 n = nI j)
    (o1 : (t = 0) → Q (gRv p sg 1))
    (o2 : (¬ (t = 0)) → (sg 213 0 = 0) → Q (gRv p sg 0))
    (o3 : (¬ (t = 0)) → (¬ (sg 213 0 = 0)) → Q (gRv p sg 1)) :
    gW X (d + 1) k_45 15 [some (vR 208), some (vI (nI n)), some (vR 201), z, some (vI (nI t)), some (vI (nI j)), z6] [] p sg Q := by
  refine g_pure 4 (i' := 19) (lv' := [some (vR 208), some (vI (nI n)), some (vR 201), z, some (vI (nI t)), some (vI (nI j)), z6]) (st' := [vI (nI n), vR 211, vI (nI j)]) rfl ?_
  refine g_ald rfl (g_A (a := 211) (kd := 1) (n := 12) rfl (by decide)) (by decide) (show nI n = nI n from (rfl : nI n = nI n)) (by omega) (show _ = nI j from hj) ?_
  refine g_if2 (i' := 94) (P := j ≤ j) rfl rfl (g_geN (show nI j = nI j from (rfl : nI j = nI j)) (show nI j = nI j from (rfl : nI j = nI j)) (by omega) (by omega)) (fun _ => ?_) (fun h1 => absurd (Nat.le_refl _) h1)
  refine g_pure 1 (i' := 95) (lv' := [some (vR 208), some (vI (nI n)), some (vR 201), z, some (vI (nI t)), some (vI (nI j)), z6]) (st' := [vI (nI t)]) rfl ?_
  refine g_if1 (i' := 101) (P := t = 0) rfl rfl (g_eqN (show nI t = nI t from (rfl : nI t = nI t)) (show 0 = nI 0 from (show (0 : Int32) = nI 0 from rfl)) (by omega) (by omega)) (fun h2 => ?_) (fun h2 => ?_)
  · refine g_pure 2 (i' := 104) (lv' := [some (vR 208), some (vI (nI n)), some (vR 201), z, some (vI (nI t)), some (vI (nI j)), z6]) (st' := [vI 1]) rfl ?_
    refine g_bret rfl g_nar1 ?_
    exact o1 h2
  · refine g_pure 3 (i' := 99) (lv' := [some (vR 208), some (vI (nI n)), some (vR 201), z, some (vI (nI t)), some (vI (nI j)), z6]) (st' := [vI 0, vR 213]) rfl ?_
    refine g_ald rfl (g_A (a := 213) (kd := 1) (n := 40) rfl (by decide)) (by decide) (show 0 = nI 0 from (show (0 : Int32) = nI 0 from rfl)) (by decide) (show _ = sg 213 0 from rfl) ?_
    refine g_if1 (i' := 103) (P := sg 213 0 = 0) rfl rfl Iff.rfl (fun h3 => ?_) (fun h3 => ?_)
    · refine g_pure 1 (i' := 104) (lv' := [some (vR 208), some (vI (nI n)), some (vR 201), z, some (vI (nI t)), some (vI (nI j)), z6]) (st' := [vI 0]) rfl ?_
      refine g_bret rfl g_nar0 ?_
      exact o2 h2 h3
    · refine g_pure 2 (i' := 104) (lv' := [some (vR 208), some (vI (nI n)), some (vR 201), z, some (vI (nI t)), some (vI (nI j)), z6]) (st' := [vI 1]) rfl ?_
      refine g_bret rfl g_nar1 ?_
      exact o3 h2 h3

theorem b_250_pu {X : Nat × (Nat → Int32)} {d : Nat} {p : Nat → Nat} {sg : Mg} {Q : am_R → Prop} {B : Nat} {S : Nat → Int32} (hI : Inv B S) (hS : sg 801 = S) {e : Nat} {s : Nat} {z : Option AV} {k : Nat} {v : Nat} {t : Nat} {u : Nat} {q : Nat} {j : Nat} {z8 : Option AV} {z9 : Option AV} {z10 : Option AV} {z11 : Option AV} (u_k : k ≤ 7) (u_v : v ≤ 5) (u_t : t ≤ 200600) (u_u : u ≤ 40) (u_q : q ≤ 758) (u_j : j ≤ 399) (q1 : k < sn S 1) (q2 : v < sn S 0) (q3 : j < e) (q4 : e ≤ 400) (q5 : s ≤ 10) (q6 : u ≤ 39) (hj : S (q + 3) = nI e) (hc : S (758 + 2 * j) = nI s)
    (o1 : ∀ s3 : Mg, s3 = mu sg 807 u (if s = 10 then (S (759 + 2 * j)) else scf S k v t s) → gW X (d + 4) k_250 15 [some (vR 800), z, some (vI (nI k)), some (vI (nI v)), some (vI (nI t)), some (vI (nI (u + 1))), some (vI (nI q)), some (vI (nI (j + 1))), some (vI (nI s)), z9, z10, z11] [] p s3 Q) :
    gW X (d + 4) k_250 15 [some (vR 800), z, some (vI (nI k)), some (vI (nI v)), some (vI (nI t)), some (vI (nI u)), some (vI (nI q)), some (vI (nI j)), z8, z9, z10, z11] [] p sg Q := by
  have b0 := hI.b0; have b1 := hI.b1; have b2 := hI.b2; have b3 := hI.b3; have b4 := hI.b4; have b5 := hI.b5; have b6 := hI.b6; have b7 := hI.b7; have b8 := hI.b8; have b9 := hI.b9; have b14 := hI.b14
  refine g_pure 6 (i' := 21) (lv' := [some (vR 800), z, some (vI (nI k)), some (vI (nI v)), some (vI (nI t)), some (vI (nI u)), some (vI (nI q)), some (vI (nI j)), z8, z9, z10, z11]) (st' := [vI (nI q + 3), vR 801, vI (nI j)]) rfl ?_
  refine gW_eq (lv' := [some (vR 800), z, some (vI (nI k)), some (vI (nI v)), some (vI (nI t)), some (vI (nI u)), some (vI (nI q)), some (vI (nI j)), z8, z9, z10, z11]) (st' := [vI (nI (q + 3)), vR 801, vI (nI j)]) rfl (by rw [(show (nI q + 3) = nI (q + 3) from ((g_add (rfl : nI q = nI q) (show (3 : Int32) = nI 3 from rfl))).trans (congrArg nI (by omega)))]) rfl ?_
  refine g_ald rfl (g_A (a := 801) (kd := 1) (n := 2407) rfl (by decide)) (by decide) (show nI (q + 3) = nI (q + 3) from (rfl : nI (q + 3) = nI (q + 3))) (by omega) (show _ = nI e from ((congrFun hS (q + 3))).trans hj) ?_
  refine g_if2 (i' := 148) (P := e ≤ j) rfl rfl (g_geN (show nI j = nI j from (rfl : nI j = nI j)) (show nI e = nI e from (rfl : nI e = nI e)) (by omega) (by omega)) (fun h1 => absurd h1 (by omega)) (fun _ => ?_)
  refine g_pure 7 (i' := 30) (lv' := [some (vR 800), z, some (vI (nI k)), some (vI (nI v)), some (vI (nI t)), some (vI (nI u)), some (vI (nI q)), some (vI (nI j)), z8, z9, z10, z11]) (st' := [vI (758 + (2 * nI j)), vR 801]) rfl ?_
  refine gW_eq (lv' := [some (vR 800), z, some (vI (nI k)), some (vI (nI v)), some (vI (nI t)), some (vI (nI u)), some (vI (nI q)), some (vI (nI j)), z8, z9, z10, z11]) (st' := [vI (nI (758 + 2 * j)), vR 801]) rfl (by rw [(show (758 + (2 * nI j)) = nI (758 + 2 * j) from ((g_add (show (758 : Int32) = nI 758 from rfl) (g_mul (show (2 : Int32) = nI 2 from rfl) (rfl : nI j = nI j)))).trans (congrArg nI (by omega)))]) rfl ?_
  refine g_ald rfl (g_A (a := 801) (kd := 1) (n := 2407) rfl (by decide)) (by decide) (show nI (758 + 2 * j) = nI (758 + 2 * j) from (rfl : nI (758 + 2 * j) = nI (758 + 2 * j))) (by omega) (show _ = nI s from ((congrFun hS (758 + 2 * j))).trans hc) ?_
  refine g_pure 3 (i' := 34) (lv' := [some (vR 800), z, some (vI (nI k)), some (vI (nI v)), some (vI (nI t)), some (vI (nI u)), some (vI (nI q)), some (vI (nI j)), some (vI (nI s)), z9, z10, z11]) (st' := [vI 10, vI (nI s)]) rfl ?_
  refine g_if2 (i' := 57) (P := 10 < s) rfl rfl (g_gtN (show nI s = nI s from (rfl : nI s = nI s)) (show 10 = nI 10 from (show (10 : Int32) = nI 10 from rfl)) (by omega) (by omega)) (fun h2 => absurd h2 (by omega)) (fun _ => ?_)
  refine g_pure 14 (i' := 49) (lv' := [some (vR 800), z, some (vI (nI k)), some (vI (nI v)), some (vI (nI t)), some (vI (nI u)), some (vI (nI q)), some (vI (nI j)), some (vI (nI s)), z9, z10, z11]) (st' := [vI ((758 + (2 * nI j)) + 1), vR 801, vI (nI s), vR 800, vI (nI u), vR 807]) rfl ?_
  refine gW_eq (lv' := [some (vR 800), z, some (vI (nI k)), some (vI (nI v)), some (vI (nI t)), some (vI (nI u)), some (vI (nI q)), some (vI (nI j)), some (vI (nI s)), z9, z10, z11]) (st' := [vI (nI (759 + 2 * j)), vR 801, vI (nI s), vR 800, vI (nI u), vR 807]) rfl (by rw [(show ((758 + (2 * nI j)) + 1) = nI (759 + 2 * j) from ((g_add (g_add (show (758 : Int32) = nI 758 from rfl) (g_mul (show (2 : Int32) = nI 2 from rfl) (rfl : nI j = nI j))) (show (1 : Int32) = nI 1 from rfl))).trans (congrArg nI (by omega)))]) rfl ?_
  refine g_ald rfl (g_A (a := 801) (kd := 1) (n := 2407) rfl (by decide)) (by decide) (show nI (759 + 2 * j) = nI (759 + 2 * j) from (rfl : nI (759 + 2 * j) = nI (759 + 2 * j))) (by omega) (show _ = S (759 + 2 * j) from (congrFun hS (759 + 2 * j))) ?_
  refine g_pure 3 (i' := 53) (lv' := [some (vR 800), z, some (vI (nI k)), some (vI (nI v)), some (vI (nI t)), some (vI (nI u)), some (vI (nI q)), some (vI (nI j)), some (vI (nI s)), z9, z10, z11]) (st' := [vI (nI t), vI (nI v), vI (nI k), vI (S (759 + 2 * j)), vI (nI s), vR 800, vI (nI u), vR 807]) rfl ?_
  refine g_cV1 rfl (args := [vR 800, vI (nI s), vI (S (759 + 2 * j)), vI (nI k), vI (nI v), vI (nI t)]) (rest := [vI (nI u), vR 807]) rfl rfl rfl (s_251 (d := d) hI hS (by omega) (by omega) (by omega) (by omega)) ?_
  refine g_ast rfl (g_A (a := 807) (kd := 1) (n := 400) rfl (by decide)) (by decide) (show nI u = nI u from (rfl : nI u = nI u)) (by omega) ?_
  refine g_setv (fun s3 es3 => ?_)
  have hSs3 : s3 801 = S := by rw [es3, mu_ne (by decide), hS]
  refine g_pure 4 (i' := 15) (lv' := [some (vR 800), z, some (vI (nI k)), some (vI (nI v)), some (vI (nI t)), some (vI (nI u + 1)), some (vI (nI q)), some (vI (nI j + 1)), some (vI (nI s)), z9, z10, z11]) (st' := []) rfl ?_
  refine gW_eq (lv' := [some (vR 800), z, some (vI (nI k)), some (vI (nI v)), some (vI (nI t)), some (vI (nI (u + 1))), some (vI (nI q)), some (vI (nI (j + 1))), some (vI (nI s)), z9, z10, z11]) (st' := []) (by rw [(show (nI u + 1) = nI (u + 1) from ((g_add (rfl : nI u = nI u) (show (1 : Int32) = nI 1 from rfl))).trans (congrArg nI (by omega))), (show (nI j + 1) = nI (j + 1) from ((g_add (rfl : nI j = nI j) (show (1 : Int32) = nI 1 from rfl))).trans (congrArg nI (by omega)))]) rfl rfl ?_
  exact o1 s3 es3

theorem b_250_no {X : Nat × (Nat → Int32)} {d : Nat} {p : Nat → Nat} {sg : Mg} {Q : am_R → Prop} {B : Nat} {S : Nat → Int32} (hI : Inv B S) (hS : sg 801 = S) {e : Nat} {z : Option AV} {k : Nat} {v : Nat} {t : Nat} {u : Nat} {q : Nat} {j : Nat} {z8 : Option AV} {z9 : Option AV} {z10 : Option AV} {z11 : Option AV} (u_k : k ≤ 7) (u_v : v ≤ 5) (u_t : t ≤ 200600) (u_u : u ≤ 40) (u_q : q ≤ 758) (u_j : j ≤ 399) (q1 : k < sn S 1) (q2 : v < sn S 0) (q3 : j < e) (q4 : e ≤ 400) (q5 : 1 ≤ u) (hj : S (q + 3) = nI e) (hc : S (758 + 2 * j) = nI 14)
    (o1 : ∀ s4 : Mg, s4 = mu sg 807 (u - 1) (1 - sg 807 (u - 1)) → gW X (d + 4) k_250 15 [some (vR 800), z, some (vI (nI k)), some (vI (nI v)), some (vI (nI t)), some (vI (nI u)), some (vI (nI q)), some (vI (nI (j + 1))), some (vI 14), z9, z10, z11] [] p s4 Q) :
    gW X (d + 4) k_250 15 [some (vR 800), z, some (vI (nI k)), some (vI (nI v)), some (vI (nI t)), some (vI (nI u)), some (vI (nI q)), some (vI (nI j)), z8, z9, z10, z11] [] p sg Q := by
  have b0 := hI.b0; have b1 := hI.b1; have b2 := hI.b2; have b3 := hI.b3; have b4 := hI.b4; have b5 := hI.b5; have b6 := hI.b6; have b7 := hI.b7; have b8 := hI.b8; have b9 := hI.b9; have b14 := hI.b14
  refine g_pure 6 (i' := 21) (lv' := [some (vR 800), z, some (vI (nI k)), some (vI (nI v)), some (vI (nI t)), some (vI (nI u)), some (vI (nI q)), some (vI (nI j)), z8, z9, z10, z11]) (st' := [vI (nI q + 3), vR 801, vI (nI j)]) rfl ?_
  refine gW_eq (lv' := [some (vR 800), z, some (vI (nI k)), some (vI (nI v)), some (vI (nI t)), some (vI (nI u)), some (vI (nI q)), some (vI (nI j)), z8, z9, z10, z11]) (st' := [vI (nI (q + 3)), vR 801, vI (nI j)]) rfl (by rw [(show (nI q + 3) = nI (q + 3) from ((g_add (rfl : nI q = nI q) (show (3 : Int32) = nI 3 from rfl))).trans (congrArg nI (by omega)))]) rfl ?_
  refine g_ald rfl (g_A (a := 801) (kd := 1) (n := 2407) rfl (by decide)) (by decide) (show nI (q + 3) = nI (q + 3) from (rfl : nI (q + 3) = nI (q + 3))) (by omega) (show _ = nI e from ((congrFun hS (q + 3))).trans hj) ?_
  refine g_if2 (i' := 148) (P := e ≤ j) rfl rfl (g_geN (show nI j = nI j from (rfl : nI j = nI j)) (show nI e = nI e from (rfl : nI e = nI e)) (by omega) (by omega)) (fun h1 => absurd h1 (by omega)) (fun _ => ?_)
  refine g_pure 7 (i' := 30) (lv' := [some (vR 800), z, some (vI (nI k)), some (vI (nI v)), some (vI (nI t)), some (vI (nI u)), some (vI (nI q)), some (vI (nI j)), z8, z9, z10, z11]) (st' := [vI (758 + (2 * nI j)), vR 801]) rfl ?_
  refine gW_eq (lv' := [some (vR 800), z, some (vI (nI k)), some (vI (nI v)), some (vI (nI t)), some (vI (nI u)), some (vI (nI q)), some (vI (nI j)), z8, z9, z10, z11]) (st' := [vI (nI (758 + 2 * j)), vR 801]) rfl (by rw [(show (758 + (2 * nI j)) = nI (758 + 2 * j) from ((g_add (show (758 : Int32) = nI 758 from rfl) (g_mul (show (2 : Int32) = nI 2 from rfl) (rfl : nI j = nI j)))).trans (congrArg nI (by omega)))]) rfl ?_
  refine g_ald rfl (g_A (a := 801) (kd := 1) (n := 2407) rfl (by decide)) (by decide) (show nI (758 + 2 * j) = nI (758 + 2 * j) from (rfl : nI (758 + 2 * j) = nI (758 + 2 * j))) (by omega) (show _ = nI 14 from ((congrFun hS (758 + 2 * j))).trans hc) ?_
  refine g_pure 3 (i' := 34) (lv' := [some (vR 800), z, some (vI (nI k)), some (vI (nI v)), some (vI (nI t)), some (vI (nI u)), some (vI (nI q)), some (vI (nI j)), some (vI (nI 14)), z9, z10, z11]) (st' := [vI 10, vI (nI 14)]) rfl ?_
  refine gW_eq (lv' := [some (vR 800), z, some (vI (nI k)), some (vI (nI v)), some (vI (nI t)), some (vI (nI u)), some (vI (nI q)), some (vI (nI j)), some (vI 14), z9, z10, z11]) (st' := [vI 10, vI 14]) (by rw [(show (nI 14 : Int32) = 14 from rfl)]) (by rw [(show (nI 14 : Int32) = 14 from rfl)]) rfl ?_
  refine g_if2 (i' := 57) (P := 10 < 14) rfl rfl (g_gtN (show 14 = nI 14 from (show (14 : Int32) = nI 14 from rfl)) (show 10 = nI 10 from (show (10 : Int32) = nI 10 from rfl)) (by omega) (by omega)) (fun _ => ?_) (fun h2 => absurd (by omega) h2)
  refine g_pure 2 (i' := 59) (lv' := [some (vR 800), z, some (vI (nI k)), some (vI (nI v)), some (vI (nI t)), some (vI (nI u)), some (vI (nI q)), some (vI (nI j)), some (vI 14), z9, z10, z11]) (st' := [vI 14, vI 14]) rfl ?_
  refine g_if2 (i' := 75) (P := ¬ 14 = 14) rfl rfl (g_neN (show 14 = nI 14 from (show (14 : Int32) = nI 14 from rfl)) (show 14 = nI 14 from (show (14 : Int32) = nI 14 from rfl)) (by omega) (by omega)) (fun h3 => absurd h3 (by omega)) (fun _ => ?_)
  refine g_pure 11 (i' := 71) (lv' := [some (vR 800), z, some (vI (nI k)), some (vI (nI v)), some (vI (nI t)), some (vI (nI u)), some (vI (nI q)), some (vI (nI j)), some (vI 14), z9, z10, z11]) (st' := [vI (nI u - 1), vR 807, vI 1, vI (nI u - 1), vR 807]) rfl ?_
  refine gW_eq (lv' := [some (vR 800), z, some (vI (nI k)), some (vI (nI v)), some (vI (nI t)), some (vI (nI u)), some (vI (nI q)), some (vI (nI j)), some (vI 14), z9, z10, z11]) (st' := [vI (nI (u - 1)), vR 807, vI 1, vI (nI (u - 1)), vR 807]) rfl (by rw [(show (nI u - 1) = nI (u - 1) from (g_sub (rfl : nI u = nI u) (show (1 : Int32) = nI 1 from rfl) (by omega)))]) rfl ?_
  refine g_ald rfl (g_A (a := 807) (kd := 1) (n := 400) rfl (by decide)) (by decide) (show nI (u - 1) = nI (u - 1) from (rfl : nI (u - 1) = nI (u - 1))) (by omega) (show _ = sg 807 (u - 1) from rfl) ?_
  refine g_pure 1 (i' := 73) (lv' := [some (vR 800), z, some (vI (nI k)), some (vI (nI v)), some (vI (nI t)), some (vI (nI u)), some (vI (nI q)), some (vI (nI j)), some (vI 14), z9, z10, z11]) (st' := [vI (1 - sg 807 (u - 1)), vI (nI (u - 1)), vR 807]) rfl ?_
  refine g_ast rfl (g_A (a := 807) (kd := 1) (n := 400) rfl (by decide)) (by decide) (show nI (u - 1) = nI (u - 1) from (rfl : nI (u - 1) = nI (u - 1))) (by omega) ?_
  refine g_setv (fun s4 es4 => ?_)
  have hSs4 : s4 801 = S := by rw [es4, mu_ne (by decide), hS]
  refine g_pure 3 (i' := 15) (lv' := [some (vR 800), z, some (vI (nI k)), some (vI (nI v)), some (vI (nI t)), some (vI (nI u)), some (vI (nI q)), some (vI (nI j + 1)), some (vI 14), z9, z10, z11]) (st' := []) rfl ?_
  refine gW_eq (lv' := [some (vR 800), z, some (vI (nI k)), some (vI (nI v)), some (vI (nI t)), some (vI (nI u)), some (vI (nI q)), some (vI (nI (j + 1))), some (vI 14), z9, z10, z11]) (st' := []) (by rw [(show (nI j + 1) = nI (j + 1) from ((g_add (rfl : nI j = nI j) (show (1 : Int32) = nI 1 from rfl))).trans (congrArg nI (by omega)))]) rfl rfl ?_
  exact o1 s4 es4

theorem b_250_b11 {X : Nat × (Nat → Int32)} {d : Nat} {p : Nat → Nat} {sg : Mg} {Q : am_R → Prop} {B : Nat} {S : Nat → Int32} (hI : Inv B S) (hS : sg 801 = S) {e : Nat} {z : Option AV} {k : Nat} {v : Nat} {t : Nat} {u : Nat} {q : Nat} {j : Nat} {z8 : Option AV} {z9 : Option AV} {z10 : Option AV} {z11 : Option AV} (u_k : k ≤ 7) (u_v : v ≤ 5) (u_t : t ≤ 200600) (u_u : u ≤ 40) (u_q : q ≤ 758) (u_j : j ≤ 399) (q1 : k < sn S 1) (q2 : v < sn S 0) (q3 : j < e) (q4 : e ≤ 400) (q5 : 2 ≤ u) (hj : S (q + 3) = nI e) (hc : S (758 + 2 * j) = nI 11)
    (o1 : ((sg 807 ((u - 1) - 1) + sg 807 (u - 1)) ≤ 0) → ∀ s9 : Mg, s9 = mu sg 807 ((u - 1) - 1) (sg 807 ((u - 1) - 1) + sg 807 (u - 1)) → gW X (d + 4) k_250 15 [some (vR 800), z, some (vI (nI k)), some (vI (nI v)), some (vI (nI t)), some (vI (nI (u - 1))), some (vI (nI q)), some (vI (nI (j + 1))), some (vI 11), some (vI (sg 807 ((u - 1) - 1))), some (vI (sg 807 (u - 1))), some (vI 0)] [] p s9 Q)
    (o2 : (¬ ((sg 807 ((u - 1) - 1) + sg 807 (u - 1)) ≤ 0)) → ∀ s11 : Mg, s11 = mu sg 807 ((u - 1) - 1) (sg 807 ((u - 1) - 1) + sg 807 (u - 1)) → gW X (d + 4) k_250 15 [some (vR 800), z, some (vI (nI k)), some (vI (nI v)), some (vI (nI t)), some (vI (nI (u - 1))), some (vI (nI q)), some (vI (nI (j + 1))), some (vI 11), some (vI (sg 807 ((u - 1) - 1))), some (vI (sg 807 (u - 1))), some (vI 1)] [] p s11 Q) :
    gW X (d + 4) k_250 15 [some (vR 800), z, some (vI (nI k)), some (vI (nI v)), some (vI (nI t)), some (vI (nI u)), some (vI (nI q)), some (vI (nI j)), z8, z9, z10, z11] [] p sg Q := by
  have b0 := hI.b0; have b1 := hI.b1; have b2 := hI.b2; have b3 := hI.b3; have b4 := hI.b4; have b5 := hI.b5; have b6 := hI.b6; have b7 := hI.b7; have b8 := hI.b8; have b9 := hI.b9; have b14 := hI.b14
  refine g_pure 6 (i' := 21) (lv' := [some (vR 800), z, some (vI (nI k)), some (vI (nI v)), some (vI (nI t)), some (vI (nI u)), some (vI (nI q)), some (vI (nI j)), z8, z9, z10, z11]) (st' := [vI (nI q + 3), vR 801, vI (nI j)]) rfl ?_
  refine gW_eq (lv' := [some (vR 800), z, some (vI (nI k)), some (vI (nI v)), some (vI (nI t)), some (vI (nI u)), some (vI (nI q)), some (vI (nI j)), z8, z9, z10, z11]) (st' := [vI (nI (q + 3)), vR 801, vI (nI j)]) rfl (by rw [(show (nI q + 3) = nI (q + 3) from ((g_add (rfl : nI q = nI q) (show (3 : Int32) = nI 3 from rfl))).trans (congrArg nI (by omega)))]) rfl ?_
  refine g_ald rfl (g_A (a := 801) (kd := 1) (n := 2407) rfl (by decide)) (by decide) (show nI (q + 3) = nI (q + 3) from (rfl : nI (q + 3) = nI (q + 3))) (by omega) (show _ = nI e from ((congrFun hS (q + 3))).trans hj) ?_
  refine g_if2 (i' := 148) (P := e ≤ j) rfl rfl (g_geN (show nI j = nI j from (rfl : nI j = nI j)) (show nI e = nI e from (rfl : nI e = nI e)) (by omega) (by omega)) (fun h1 => absurd h1 (by omega)) (fun _ => ?_)
  refine g_pure 7 (i' := 30) (lv' := [some (vR 800), z, some (vI (nI k)), some (vI (nI v)), some (vI (nI t)), some (vI (nI u)), some (vI (nI q)), some (vI (nI j)), z8, z9, z10, z11]) (st' := [vI (758 + (2 * nI j)), vR 801]) rfl ?_
  refine gW_eq (lv' := [some (vR 800), z, some (vI (nI k)), some (vI (nI v)), some (vI (nI t)), some (vI (nI u)), some (vI (nI q)), some (vI (nI j)), z8, z9, z10, z11]) (st' := [vI (nI (758 + 2 * j)), vR 801]) rfl (by rw [(show (758 + (2 * nI j)) = nI (758 + 2 * j) from ((g_add (show (758 : Int32) = nI 758 from rfl) (g_mul (show (2 : Int32) = nI 2 from rfl) (rfl : nI j = nI j)))).trans (congrArg nI (by omega)))]) rfl ?_
  refine g_ald rfl (g_A (a := 801) (kd := 1) (n := 2407) rfl (by decide)) (by decide) (show nI (758 + 2 * j) = nI (758 + 2 * j) from (rfl : nI (758 + 2 * j) = nI (758 + 2 * j))) (by omega) (show _ = nI 11 from ((congrFun hS (758 + 2 * j))).trans hc) ?_
  refine g_pure 3 (i' := 34) (lv' := [some (vR 800), z, some (vI (nI k)), some (vI (nI v)), some (vI (nI t)), some (vI (nI u)), some (vI (nI q)), some (vI (nI j)), some (vI (nI 11)), z9, z10, z11]) (st' := [vI 10, vI (nI 11)]) rfl ?_
  refine gW_eq (lv' := [some (vR 800), z, some (vI (nI k)), some (vI (nI v)), some (vI (nI t)), some (vI (nI u)), some (vI (nI q)), some (vI (nI j)), some (vI 11), z9, z10, z11]) (st' := [vI 10, vI 11]) (by rw [(show (nI 11 : Int32) = 11 from rfl)]) (by rw [(show (nI 11 : Int32) = 11 from rfl)]) rfl ?_
  refine g_if2 (i' := 57) (P := 10 < 11) rfl rfl (g_gtN (show 11 = nI 11 from (show (11 : Int32) = nI 11 from rfl)) (show 10 = nI 10 from (show (10 : Int32) = nI 10 from rfl)) (by omega) (by omega)) (fun _ => ?_) (fun h2 => absurd (by omega) h2)
  refine g_pure 2 (i' := 59) (lv' := [some (vR 800), z, some (vI (nI k)), some (vI (nI v)), some (vI (nI t)), some (vI (nI u)), some (vI (nI q)), some (vI (nI j)), some (vI 11), z9, z10, z11]) (st' := [vI 14, vI 11]) rfl ?_
  refine g_if2 (i' := 75) (P := ¬ 11 = 14) rfl rfl (g_neN (show 11 = nI 11 from (show (11 : Int32) = nI 11 from rfl)) (show 14 = nI 14 from (show (14 : Int32) = nI 14 from rfl)) (by omega) (by omega)) (fun _ => ?_) (fun h3 => absurd (by omega) h3)
  refine g_pure 5 (i' := 80) (lv' := [some (vR 800), z, some (vI (nI k)), some (vI (nI v)), some (vI (nI t)), some (vI (nI u + -1)), some (vI (nI q)), some (vI (nI j)), some (vI 11), z9, z10, z11]) (st' := [vI 1, vI (nI u + -1), vR 807]) rfl ?_
  refine gW_eq (lv' := [some (vR 800), z, some (vI (nI k)), some (vI (nI v)), some (vI (nI t)), some (vI (nI (u - 1))), some (vI (nI q)), some (vI (nI j)), some (vI 11), z9, z10, z11]) (st' := [vI 1, vI (nI (u - 1)), vR 807]) (by rw [(show (nI u + -1) = nI (u - 1) from (g_dec (rfl : nI u = nI u) (by omega)))]) (by rw [(show (nI u + -1) = nI (u - 1) from (g_dec (rfl : nI u = nI u) (by omega)))]) rfl ?_
  refine g_pure 1 (i' := 81) (lv' := [some (vR 800), z, some (vI (nI k)), some (vI (nI v)), some (vI (nI t)), some (vI (nI (u - 1))), some (vI (nI q)), some (vI (nI j)), some (vI 11), z9, z10, z11]) (st' := [vI (nI (u - 1) - 1), vR 807]) rfl ?_
  refine gW_eq (lv' := [some (vR 800), z, some (vI (nI k)), some (vI (nI v)), some (vI (nI t)), some (vI (nI (u - 1))), some (vI (nI q)), some (vI (nI j)), some (vI 11), z9, z10, z11]) (st' := [vI (nI ((u - 1) - 1)), vR 807]) rfl (by rw [(show (nI (u - 1) - 1) = nI ((u - 1) - 1) from (g_sub (rfl : nI (u - 1) = nI (u - 1)) (show (1 : Int32) = nI 1 from rfl) (by omega)))]) rfl ?_
  refine g_ald rfl (g_A (a := 807) (kd := 1) (n := 400) rfl (by decide)) (by decide) (show nI ((u - 1) - 1) = nI ((u - 1) - 1) from (rfl : nI ((u - 1) - 1) = nI ((u - 1) - 1))) (by omega) (show _ = sg 807 ((u - 1) - 1) from rfl) ?_
  refine g_pure 4 (i' := 86) (lv' := [some (vR 800), z, some (vI (nI k)), some (vI (nI v)), some (vI (nI t)), some (vI (nI (u - 1))), some (vI (nI q)), some (vI (nI j)), some (vI 11), some (vI (sg 807 ((u - 1) - 1))), z10, z11]) (st' := [vI (nI (u - 1)), vR 807]) rfl ?_
  refine g_ald rfl (g_A (a := 807) (kd := 1) (n := 400) rfl (by decide)) (by decide) (show nI (u - 1) = nI (u - 1) from (rfl : nI (u - 1) = nI (u - 1))) (by omega) (show _ = sg 807 (u - 1) from rfl) ?_
  refine g_pure 3 (i' := 90) (lv' := [some (vR 800), z, some (vI (nI k)), some (vI (nI v)), some (vI (nI t)), some (vI (nI (u - 1))), some (vI (nI q)), some (vI (nI j)), some (vI 11), some (vI (sg 807 ((u - 1) - 1))), some (vI (sg 807 (u - 1))), z11]) (st' := [vI 12, vI 11]) rfl ?_
  refine g_if2 (i' := 98) (P := ¬ 11 = 12) rfl rfl (g_neN (show 11 = nI 11 from (show (11 : Int32) = nI 11 from rfl)) (show 12 = nI 12 from (show (12 : Int32) = nI 12 from rfl)) (by omega) (by omega)) (fun _ => ?_) (fun h4 => absurd (by omega) h4)
  refine g_pure 2 (i' := 100) (lv' := [some (vR 800), z, some (vI (nI k)), some (vI (nI v)), some (vI (nI t)), some (vI (nI (u - 1))), some (vI (nI q)), some (vI (nI j)), some (vI 11), some (vI (sg 807 ((u - 1) - 1))), some (vI (sg 807 (u - 1))), z11]) (st' := [vI 13, vI 11]) rfl ?_
  refine g_if2 (i' := 108) (P := ¬ 11 = 13) rfl rfl (g_neN (show 11 = nI 11 from (show (11 : Int32) = nI 11 from rfl)) (show 13 = nI 13 from (show (13 : Int32) = nI 13 from rfl)) (by omega) (by omega)) (fun _ => ?_) (fun h5 => absurd (by omega) h5)
  refine g_pure 2 (i' := 110) (lv' := [some (vR 800), z, some (vI (nI k)), some (vI (nI v)), some (vI (nI t)), some (vI (nI (u - 1))), some (vI (nI q)), some (vI (nI j)), some (vI 11), some (vI (sg 807 ((u - 1) - 1))), some (vI (sg 807 (u - 1))), z11]) (st' := [vI 15, vI 11]) rfl ?_
  refine g_if2 (i' := 120) (P := ¬ 11 = 15) rfl rfl (g_neN (show 11 = nI 11 from (show (11 : Int32) = nI 11 from rfl)) (show 15 = nI 15 from (show (15 : Int32) = nI 15 from rfl)) (by omega) (by omega)) (fun _ => ?_) (fun h6 => absurd (by omega) h6)
  refine g_pure 3 (i' := 123) (lv' := [some (vR 800), z, some (vI (nI k)), some (vI (nI v)), some (vI (nI t)), some (vI (nI (u - 1))), some (vI (nI q)), some (vI (nI j)), some (vI 11), some (vI (sg 807 ((u - 1) - 1))), some (vI (sg 807 (u - 1))), z11]) (st' := [vI (sg 807 ((u - 1) - 1) + sg 807 (u - 1))]) rfl ?_
  refine g_if1 (i' := 126) (P := (sg 807 ((u - 1) - 1) + sg 807 (u - 1)) ≤ 0) rfl rfl Iff.rfl (fun h7 => ?_) (fun h7 => ?_)
  · refine g_pure 9 (i' := 135) (lv' := [some (vR 800), z, some (vI (nI k)), some (vI (nI v)), some (vI (nI t)), some (vI (nI (u - 1))), some (vI (nI q)), some (vI (nI j)), some (vI 11), some (vI (sg 807 ((u - 1) - 1))), some (vI (sg 807 (u - 1))), some (vI 0)]) (st' := [vI 11, vI 11, vI (nI (u - 1) - 1), vR 807]) rfl ?_
    refine gW_eq (lv' := [some (vR 800), z, some (vI (nI k)), some (vI (nI v)), some (vI (nI t)), some (vI (nI (u - 1))), some (vI (nI q)), some (vI (nI j)), some (vI 11), some (vI (sg 807 ((u - 1) - 1))), some (vI (sg 807 (u - 1))), some (vI 0)]) (st' := [vI 11, vI 11, vI (nI ((u - 1) - 1)), vR 807]) rfl (by rw [(show (nI (u - 1) - 1) = nI ((u - 1) - 1) from (g_sub (rfl : nI (u - 1) = nI (u - 1)) (show (1 : Int32) = nI 1 from rfl) (by omega)))]) rfl ?_
    refine g_if2 (i' := 140) (P := ¬ 11 = 11) rfl rfl (g_neN (show 11 = nI 11 from (show (11 : Int32) = nI 11 from rfl)) (show 11 = nI 11 from (show (11 : Int32) = nI 11 from rfl)) (by omega) (by omega)) (fun h8 => absurd h8 (by omega)) (fun _ => ?_)
    refine g_pure 4 (i' := 145) (lv' := [some (vR 800), z, some (vI (nI k)), some (vI (nI v)), some (vI (nI t)), some (vI (nI (u - 1))), some (vI (nI q)), some (vI (nI j)), some (vI 11), some (vI (sg 807 ((u - 1) - 1))), some (vI (sg 807 (u - 1))), some (vI 0)]) (st' := [vI (sg 807 ((u - 1) - 1) + sg 807 (u - 1)), vI (nI ((u - 1) - 1)), vR 807]) rfl ?_
    refine g_ast rfl (g_A (a := 807) (kd := 1) (n := 400) rfl (by decide)) (by decide) (show nI ((u - 1) - 1) = nI ((u - 1) - 1) from (rfl : nI ((u - 1) - 1) = nI ((u - 1) - 1))) (by omega) ?_
    refine g_setv (fun s9 es9 => ?_)
    have hSs9 : s9 801 = S := by rw [es9, mu_ne (by decide), hS]
    refine g_pure 2 (i' := 15) (lv' := [some (vR 800), z, some (vI (nI k)), some (vI (nI v)), some (vI (nI t)), some (vI (nI (u - 1))), some (vI (nI q)), some (vI (nI j + 1)), some (vI 11), some (vI (sg 807 ((u - 1) - 1))), some (vI (sg 807 (u - 1))), some (vI 0)]) (st' := []) rfl ?_
    refine gW_eq (lv' := [some (vR 800), z, some (vI (nI k)), some (vI (nI v)), some (vI (nI t)), some (vI (nI (u - 1))), some (vI (nI q)), some (vI (nI (j + 1))), some (vI 11), some (vI (sg 807 ((u - 1) - 1))), some (vI (sg 807 (u - 1))), some (vI 0)]) (st' := []) (by rw [(show (nI j + 1) = nI (j + 1) from ((g_add (rfl : nI j = nI j) (show (1 : Int32) = nI 1 from rfl))).trans (congrArg nI (by omega)))]) rfl rfl ?_
    exact o1 h7 s9 es9
  · refine g_pure 10 (i' := 135) (lv' := [some (vR 800), z, some (vI (nI k)), some (vI (nI v)), some (vI (nI t)), some (vI (nI (u - 1))), some (vI (nI q)), some (vI (nI j)), some (vI 11), some (vI (sg 807 ((u - 1) - 1))), some (vI (sg 807 (u - 1))), some (vI 1)]) (st' := [vI 11, vI 11, vI (nI (u - 1) - 1), vR 807]) rfl ?_
    refine gW_eq (lv' := [some (vR 800), z, some (vI (nI k)), some (vI (nI v)), some (vI (nI t)), some (vI (nI (u - 1))), some (vI (nI q)), some (vI (nI j)), some (vI 11), some (vI (sg 807 ((u - 1) - 1))), some (vI (sg 807 (u - 1))), some (vI 1)]) (st' := [vI 11, vI 11, vI (nI ((u - 1) - 1)), vR 807]) rfl (by rw [(show (nI (u - 1) - 1) = nI ((u - 1) - 1) from (g_sub (rfl : nI (u - 1) = nI (u - 1)) (show (1 : Int32) = nI 1 from rfl) (by omega)))]) rfl ?_
    refine g_if2 (i' := 140) (P := ¬ 11 = 11) rfl rfl (g_neN (show 11 = nI 11 from (show (11 : Int32) = nI 11 from rfl)) (show 11 = nI 11 from (show (11 : Int32) = nI 11 from rfl)) (by omega) (by omega)) (fun h10 => absurd h10 (by omega)) (fun _ => ?_)
    refine g_pure 4 (i' := 145) (lv' := [some (vR 800), z, some (vI (nI k)), some (vI (nI v)), some (vI (nI t)), some (vI (nI (u - 1))), some (vI (nI q)), some (vI (nI j)), some (vI 11), some (vI (sg 807 ((u - 1) - 1))), some (vI (sg 807 (u - 1))), some (vI 1)]) (st' := [vI (sg 807 ((u - 1) - 1) + sg 807 (u - 1)), vI (nI ((u - 1) - 1)), vR 807]) rfl ?_
    refine g_ast rfl (g_A (a := 807) (kd := 1) (n := 400) rfl (by decide)) (by decide) (show nI ((u - 1) - 1) = nI ((u - 1) - 1) from (rfl : nI ((u - 1) - 1) = nI ((u - 1) - 1))) (by omega) ?_
    refine g_setv (fun s11 es11 => ?_)
    have hSs11 : s11 801 = S := by rw [es11, mu_ne (by decide), hS]
    refine g_pure 2 (i' := 15) (lv' := [some (vR 800), z, some (vI (nI k)), some (vI (nI v)), some (vI (nI t)), some (vI (nI (u - 1))), some (vI (nI q)), some (vI (nI j + 1)), some (vI 11), some (vI (sg 807 ((u - 1) - 1))), some (vI (sg 807 (u - 1))), some (vI 1)]) (st' := []) rfl ?_
    refine gW_eq (lv' := [some (vR 800), z, some (vI (nI k)), some (vI (nI v)), some (vI (nI t)), some (vI (nI (u - 1))), some (vI (nI q)), some (vI (nI (j + 1))), some (vI 11), some (vI (sg 807 ((u - 1) - 1))), some (vI (sg 807 (u - 1))), some (vI 1)]) (st' := []) (by rw [(show (nI j + 1) = nI (j + 1) from ((g_add (rfl : nI j = nI j) (show (1 : Int32) = nI 1 from rfl))).trans (congrArg nI (by omega)))]) rfl rfl ?_
    exact o2 h7 s11 es11

theorem b_250_b12 {X : Nat × (Nat → Int32)} {d : Nat} {p : Nat → Nat} {sg : Mg} {Q : am_R → Prop} {B : Nat} {S : Nat → Int32} (hI : Inv B S) (hS : sg 801 = S) {e : Nat} {z : Option AV} {k : Nat} {v : Nat} {t : Nat} {u : Nat} {q : Nat} {j : Nat} {z8 : Option AV} {z9 : Option AV} {z10 : Option AV} {z11 : Option AV} (u_k : k ≤ 7) (u_v : v ≤ 5) (u_t : t ≤ 200600) (u_u : u ≤ 40) (u_q : q ≤ 758) (u_j : j ≤ 399) (q1 : k < sn S 1) (q2 : v < sn S 0) (q3 : j < e) (q4 : e ≤ 400) (q5 : 2 ≤ u) (hj : S (q + 3) = nI e) (hc : S (758 + 2 * j) = nI 12)
    (o1 : (sg 807 (u - 1) ≤ sg 807 ((u - 1) - 1)) → ∀ s8 : Mg, s8 = mu sg 807 ((u - 1) - 1) 0 → gW X (d + 4) k_250 15 [some (vR 800), z, some (vI (nI k)), some (vI (nI v)), some (vI (nI t)), some (vI (nI (u - 1))), some (vI (nI q)), some (vI (nI (j + 1))), some (vI 12), some (vI (sg 807 ((u - 1) - 1))), some (vI (sg 807 (u - 1))), some (vI 0)] [] p s8 Q)
    (o2 : (¬ (sg 807 (u - 1) ≤ sg 807 ((u - 1) - 1))) → ∀ s11 : Mg, s11 = mu sg 807 ((u - 1) - 1) 1 → gW X (d + 4) k_250 15 [some (vR 800), z, some (vI (nI k)), some (vI (nI v)), some (vI (nI t)), some (vI (nI (u - 1))), some (vI (nI q)), some (vI (nI (j + 1))), some (vI 12), some (vI (sg 807 ((u - 1) - 1))), some (vI (sg 807 (u - 1))), some (vI 1)] [] p s11 Q) :
    gW X (d + 4) k_250 15 [some (vR 800), z, some (vI (nI k)), some (vI (nI v)), some (vI (nI t)), some (vI (nI u)), some (vI (nI q)), some (vI (nI j)), z8, z9, z10, z11] [] p sg Q := by
  have b0 := hI.b0; have b1 := hI.b1; have b2 := hI.b2; have b3 := hI.b3; have b4 := hI.b4; have b5 := hI.b5; have b6 := hI.b6; have b7 := hI.b7; have b8 := hI.b8; have b9 := hI.b9; have b14 := hI.b14
  refine g_pure 6 (i' := 21) (lv' := [some (vR 800), z, some (vI (nI k)), some (vI (nI v)), some (vI (nI t)), some (vI (nI u)), some (vI (nI q)), some (vI (nI j)), z8, z9, z10, z11]) (st' := [vI (nI q + 3), vR 801, vI (nI j)]) rfl ?_
  refine gW_eq (lv' := [some (vR 800), z, some (vI (nI k)), some (vI (nI v)), some (vI (nI t)), some (vI (nI u)), some (vI (nI q)), some (vI (nI j)), z8, z9, z10, z11]) (st' := [vI (nI (q + 3)), vR 801, vI (nI j)]) rfl (by rw [(show (nI q + 3) = nI (q + 3) from ((g_add (rfl : nI q = nI q) (show (3 : Int32) = nI 3 from rfl))).trans (congrArg nI (by omega)))]) rfl ?_
  refine g_ald rfl (g_A (a := 801) (kd := 1) (n := 2407) rfl (by decide)) (by decide) (show nI (q + 3) = nI (q + 3) from (rfl : nI (q + 3) = nI (q + 3))) (by omega) (show _ = nI e from ((congrFun hS (q + 3))).trans hj) ?_
  refine g_if2 (i' := 148) (P := e ≤ j) rfl rfl (g_geN (show nI j = nI j from (rfl : nI j = nI j)) (show nI e = nI e from (rfl : nI e = nI e)) (by omega) (by omega)) (fun h1 => absurd h1 (by omega)) (fun _ => ?_)
  refine g_pure 7 (i' := 30) (lv' := [some (vR 800), z, some (vI (nI k)), some (vI (nI v)), some (vI (nI t)), some (vI (nI u)), some (vI (nI q)), some (vI (nI j)), z8, z9, z10, z11]) (st' := [vI (758 + (2 * nI j)), vR 801]) rfl ?_
  refine gW_eq (lv' := [some (vR 800), z, some (vI (nI k)), some (vI (nI v)), some (vI (nI t)), some (vI (nI u)), some (vI (nI q)), some (vI (nI j)), z8, z9, z10, z11]) (st' := [vI (nI (758 + 2 * j)), vR 801]) rfl (by rw [(show (758 + (2 * nI j)) = nI (758 + 2 * j) from ((g_add (show (758 : Int32) = nI 758 from rfl) (g_mul (show (2 : Int32) = nI 2 from rfl) (rfl : nI j = nI j)))).trans (congrArg nI (by omega)))]) rfl ?_
  refine g_ald rfl (g_A (a := 801) (kd := 1) (n := 2407) rfl (by decide)) (by decide) (show nI (758 + 2 * j) = nI (758 + 2 * j) from (rfl : nI (758 + 2 * j) = nI (758 + 2 * j))) (by omega) (show _ = nI 12 from ((congrFun hS (758 + 2 * j))).trans hc) ?_
  refine g_pure 3 (i' := 34) (lv' := [some (vR 800), z, some (vI (nI k)), some (vI (nI v)), some (vI (nI t)), some (vI (nI u)), some (vI (nI q)), some (vI (nI j)), some (vI (nI 12)), z9, z10, z11]) (st' := [vI 10, vI (nI 12)]) rfl ?_
  refine gW_eq (lv' := [some (vR 800), z, some (vI (nI k)), some (vI (nI v)), some (vI (nI t)), some (vI (nI u)), some (vI (nI q)), some (vI (nI j)), some (vI 12), z9, z10, z11]) (st' := [vI 10, vI 12]) (by rw [(show (nI 12 : Int32) = 12 from rfl)]) (by rw [(show (nI 12 : Int32) = 12 from rfl)]) rfl ?_
  refine g_if2 (i' := 57) (P := 10 < 12) rfl rfl (g_gtN (show 12 = nI 12 from (show (12 : Int32) = nI 12 from rfl)) (show 10 = nI 10 from (show (10 : Int32) = nI 10 from rfl)) (by omega) (by omega)) (fun _ => ?_) (fun h2 => absurd (by omega) h2)
  refine g_pure 2 (i' := 59) (lv' := [some (vR 800), z, some (vI (nI k)), some (vI (nI v)), some (vI (nI t)), some (vI (nI u)), some (vI (nI q)), some (vI (nI j)), some (vI 12), z9, z10, z11]) (st' := [vI 14, vI 12]) rfl ?_
  refine g_if2 (i' := 75) (P := ¬ 12 = 14) rfl rfl (g_neN (show 12 = nI 12 from (show (12 : Int32) = nI 12 from rfl)) (show 14 = nI 14 from (show (14 : Int32) = nI 14 from rfl)) (by omega) (by omega)) (fun _ => ?_) (fun h3 => absurd (by omega) h3)
  refine g_pure 5 (i' := 80) (lv' := [some (vR 800), z, some (vI (nI k)), some (vI (nI v)), some (vI (nI t)), some (vI (nI u + -1)), some (vI (nI q)), some (vI (nI j)), some (vI 12), z9, z10, z11]) (st' := [vI 1, vI (nI u + -1), vR 807]) rfl ?_
  refine gW_eq (lv' := [some (vR 800), z, some (vI (nI k)), some (vI (nI v)), some (vI (nI t)), some (vI (nI (u - 1))), some (vI (nI q)), some (vI (nI j)), some (vI 12), z9, z10, z11]) (st' := [vI 1, vI (nI (u - 1)), vR 807]) (by rw [(show (nI u + -1) = nI (u - 1) from (g_dec (rfl : nI u = nI u) (by omega)))]) (by rw [(show (nI u + -1) = nI (u - 1) from (g_dec (rfl : nI u = nI u) (by omega)))]) rfl ?_
  refine g_pure 1 (i' := 81) (lv' := [some (vR 800), z, some (vI (nI k)), some (vI (nI v)), some (vI (nI t)), some (vI (nI (u - 1))), some (vI (nI q)), some (vI (nI j)), some (vI 12), z9, z10, z11]) (st' := [vI (nI (u - 1) - 1), vR 807]) rfl ?_
  refine gW_eq (lv' := [some (vR 800), z, some (vI (nI k)), some (vI (nI v)), some (vI (nI t)), some (vI (nI (u - 1))), some (vI (nI q)), some (vI (nI j)), some (vI 12), z9, z10, z11]) (st' := [vI (nI ((u - 1) - 1)), vR 807]) rfl (by rw [(show (nI (u - 1) - 1) = nI ((u - 1) - 1) from (g_sub (rfl : nI (u - 1) = nI (u - 1)) (show (1 : Int32) = nI 1 from rfl) (by omega)))]) rfl ?_
  refine g_ald rfl (g_A (a := 807) (kd := 1) (n := 400) rfl (by decide)) (by decide) (show nI ((u - 1) - 1) = nI ((u - 1) - 1) from (rfl : nI ((u - 1) - 1) = nI ((u - 1) - 1))) (by omega) (show _ = sg 807 ((u - 1) - 1) from rfl) ?_
  refine g_pure 4 (i' := 86) (lv' := [some (vR 800), z, some (vI (nI k)), some (vI (nI v)), some (vI (nI t)), some (vI (nI (u - 1))), some (vI (nI q)), some (vI (nI j)), some (vI 12), some (vI (sg 807 ((u - 1) - 1))), z10, z11]) (st' := [vI (nI (u - 1)), vR 807]) rfl ?_
  refine g_ald rfl (g_A (a := 807) (kd := 1) (n := 400) rfl (by decide)) (by decide) (show nI (u - 1) = nI (u - 1) from (rfl : nI (u - 1) = nI (u - 1))) (by omega) (show _ = sg 807 (u - 1) from rfl) ?_
  refine g_pure 3 (i' := 90) (lv' := [some (vR 800), z, some (vI (nI k)), some (vI (nI v)), some (vI (nI t)), some (vI (nI (u - 1))), some (vI (nI q)), some (vI (nI j)), some (vI 12), some (vI (sg 807 ((u - 1) - 1))), some (vI (sg 807 (u - 1))), z11]) (st' := [vI 12, vI 12]) rfl ?_
  refine g_if2 (i' := 98) (P := ¬ 12 = 12) rfl rfl (g_neN (show 12 = nI 12 from (show (12 : Int32) = nI 12 from rfl)) (show 12 = nI 12 from (show (12 : Int32) = nI 12 from rfl)) (by omega) (by omega)) (fun h4 => absurd h4 (by omega)) (fun _ => ?_)
  refine g_pure 2 (i' := 93) (lv' := [some (vR 800), z, some (vI (nI k)), some (vI (nI v)), some (vI (nI t)), some (vI (nI (u - 1))), some (vI (nI q)), some (vI (nI j)), some (vI 12), some (vI (sg 807 ((u - 1) - 1))), some (vI (sg 807 (u - 1))), z11]) (st' := [vI (sg 807 (u - 1)), vI (sg 807 ((u - 1) - 1))]) rfl ?_
  refine g_if2 (i' := 96) (P := sg 807 (u - 1) ≤ sg 807 ((u - 1) - 1)) rfl rfl Iff.rfl (fun h5 => ?_) (fun h5 => ?_)
  · refine g_pure 10 (i' := 135) (lv' := [some (vR 800), z, some (vI (nI k)), some (vI (nI v)), some (vI (nI t)), some (vI (nI (u - 1))), some (vI (nI q)), some (vI (nI j)), some (vI 12), some (vI (sg 807 ((u - 1) - 1))), some (vI (sg 807 (u - 1))), some (vI 0)]) (st' := [vI 11, vI 12, vI (nI (u - 1) - 1), vR 807]) rfl ?_
    refine gW_eq (lv' := [some (vR 800), z, some (vI (nI k)), some (vI (nI v)), some (vI (nI t)), some (vI (nI (u - 1))), some (vI (nI q)), some (vI (nI j)), some (vI 12), some (vI (sg 807 ((u - 1) - 1))), some (vI (sg 807 (u - 1))), some (vI 0)]) (st' := [vI 11, vI 12, vI (nI ((u - 1) - 1)), vR 807]) rfl (by rw [(show (nI (u - 1) - 1) = nI ((u - 1) - 1) from (g_sub (rfl : nI (u - 1) = nI (u - 1)) (show (1 : Int32) = nI 1 from rfl) (by omega)))]) rfl ?_
    refine g_if2 (i' := 140) (P := ¬ 12 = 11) rfl rfl (g_neN (show 12 = nI 12 from (show (12 : Int32) = nI 12 from rfl)) (show 11 = nI 11 from (show (11 : Int32) = nI 11 from rfl)) (by omega) (by omega)) (fun _ => ?_) (fun h6 => absurd (by omega) h6)
    refine g_pure 1 (i' := 141) (lv' := [some (vR 800), z, some (vI (nI k)), some (vI (nI v)), some (vI (nI t)), some (vI (nI (u - 1))), some (vI (nI q)), some (vI (nI j)), some (vI 12), some (vI (sg 807 ((u - 1) - 1))), some (vI (sg 807 (u - 1))), some (vI 0)]) (st' := [vI 0, vI (nI ((u - 1) - 1)), vR 807]) rfl ?_
    refine g_if1 (i' := 144) (P := 0 = 0) rfl rfl (g_eqN (show 0 = nI 0 from (show (0 : Int32) = nI 0 from rfl)) (show 0 = nI 0 from (show (0 : Int32) = nI 0 from rfl)) (by omega) (by omega)) (fun _ => ?_) (fun h7 => absurd (by omega) h7)
    refine g_pure 1 (i' := 145) (lv' := [some (vR 800), z, some (vI (nI k)), some (vI (nI v)), some (vI (nI t)), some (vI (nI (u - 1))), some (vI (nI q)), some (vI (nI j)), some (vI 12), some (vI (sg 807 ((u - 1) - 1))), some (vI (sg 807 (u - 1))), some (vI 0)]) (st' := [vI 0, vI (nI ((u - 1) - 1)), vR 807]) rfl ?_
    refine g_ast rfl (g_A (a := 807) (kd := 1) (n := 400) rfl (by decide)) (by decide) (show nI ((u - 1) - 1) = nI ((u - 1) - 1) from (rfl : nI ((u - 1) - 1) = nI ((u - 1) - 1))) (by omega) ?_
    refine g_setv (fun s8 es8 => ?_)
    have hSs8 : s8 801 = S := by rw [es8, mu_ne (by decide), hS]
    refine g_pure 2 (i' := 15) (lv' := [some (vR 800), z, some (vI (nI k)), some (vI (nI v)), some (vI (nI t)), some (vI (nI (u - 1))), some (vI (nI q)), some (vI (nI j + 1)), some (vI 12), some (vI (sg 807 ((u - 1) - 1))), some (vI (sg 807 (u - 1))), some (vI 0)]) (st' := []) rfl ?_
    refine gW_eq (lv' := [some (vR 800), z, some (vI (nI k)), some (vI (nI v)), some (vI (nI t)), some (vI (nI (u - 1))), some (vI (nI q)), some (vI (nI (j + 1))), some (vI 12), some (vI (sg 807 ((u - 1) - 1))), some (vI (sg 807 (u - 1))), some (vI 0)]) (st' := []) (by rw [(show (nI j + 1) = nI (j + 1) from ((g_add (rfl : nI j = nI j) (show (1 : Int32) = nI 1 from rfl))).trans (congrArg nI (by omega)))]) rfl rfl ?_
    exact o1 h5 s8 es8
  · refine g_pure 10 (i' := 135) (lv' := [some (vR 800), z, some (vI (nI k)), some (vI (nI v)), some (vI (nI t)), some (vI (nI (u - 1))), some (vI (nI q)), some (vI (nI j)), some (vI 12), some (vI (sg 807 ((u - 1) - 1))), some (vI (sg 807 (u - 1))), some (vI 1)]) (st' := [vI 11, vI 12, vI (nI (u - 1) - 1), vR 807]) rfl ?_
    refine gW_eq (lv' := [some (vR 800), z, some (vI (nI k)), some (vI (nI v)), some (vI (nI t)), some (vI (nI (u - 1))), some (vI (nI q)), some (vI (nI j)), some (vI 12), some (vI (sg 807 ((u - 1) - 1))), some (vI (sg 807 (u - 1))), some (vI 1)]) (st' := [vI 11, vI 12, vI (nI ((u - 1) - 1)), vR 807]) rfl (by rw [(show (nI (u - 1) - 1) = nI ((u - 1) - 1) from (g_sub (rfl : nI (u - 1) = nI (u - 1)) (show (1 : Int32) = nI 1 from rfl) (by omega)))]) rfl ?_
    refine g_if2 (i' := 140) (P := ¬ 12 = 11) rfl rfl (g_neN (show 12 = nI 12 from (show (12 : Int32) = nI 12 from rfl)) (show 11 = nI 11 from (show (11 : Int32) = nI 11 from rfl)) (by omega) (by omega)) (fun _ => ?_) (fun h9 => absurd (by omega) h9)
    refine g_pure 1 (i' := 141) (lv' := [some (vR 800), z, some (vI (nI k)), some (vI (nI v)), some (vI (nI t)), some (vI (nI (u - 1))), some (vI (nI q)), some (vI (nI j)), some (vI 12), some (vI (sg 807 ((u - 1) - 1))), some (vI (sg 807 (u - 1))), some (vI 1)]) (st' := [vI 1, vI (nI ((u - 1) - 1)), vR 807]) rfl ?_
    refine g_if1 (i' := 144) (P := 1 = 0) rfl rfl (g_eqN (show 1 = nI 1 from (show (1 : Int32) = nI 1 from rfl)) (show 0 = nI 0 from (show (0 : Int32) = nI 0 from rfl)) (by omega) (by omega)) (fun h10 => absurd h10 (by omega)) (fun _ => ?_)
    refine g_pure 2 (i' := 145) (lv' := [some (vR 800), z, some (vI (nI k)), some (vI (nI v)), some (vI (nI t)), some (vI (nI (u - 1))), some (vI (nI q)), some (vI (nI j)), some (vI 12), some (vI (sg 807 ((u - 1) - 1))), some (vI (sg 807 (u - 1))), some (vI 1)]) (st' := [vI 1, vI (nI ((u - 1) - 1)), vR 807]) rfl ?_
    refine g_ast rfl (g_A (a := 807) (kd := 1) (n := 400) rfl (by decide)) (by decide) (show nI ((u - 1) - 1) = nI ((u - 1) - 1) from (rfl : nI ((u - 1) - 1) = nI ((u - 1) - 1))) (by omega) ?_
    refine g_setv (fun s11 es11 => ?_)
    have hSs11 : s11 801 = S := by rw [es11, mu_ne (by decide), hS]
    refine g_pure 2 (i' := 15) (lv' := [some (vR 800), z, some (vI (nI k)), some (vI (nI v)), some (vI (nI t)), some (vI (nI (u - 1))), some (vI (nI q)), some (vI (nI j + 1)), some (vI 12), some (vI (sg 807 ((u - 1) - 1))), some (vI (sg 807 (u - 1))), some (vI 1)]) (st' := []) rfl ?_
    refine gW_eq (lv' := [some (vR 800), z, some (vI (nI k)), some (vI (nI v)), some (vI (nI t)), some (vI (nI (u - 1))), some (vI (nI q)), some (vI (nI (j + 1))), some (vI 12), some (vI (sg 807 ((u - 1) - 1))), some (vI (sg 807 (u - 1))), some (vI 1)]) (st' := []) (by rw [(show (nI j + 1) = nI (j + 1) from ((g_add (rfl : nI j = nI j) (show (1 : Int32) = nI 1 from rfl))).trans (congrArg nI (by omega)))]) rfl rfl ?_
    exact o2 h5 s11 es11

theorem b_250_b13 {X : Nat × (Nat → Int32)} {d : Nat} {p : Nat → Nat} {sg : Mg} {Q : am_R → Prop} {B : Nat} {S : Nat → Int32} (hI : Inv B S) (hS : sg 801 = S) {e : Nat} {z : Option AV} {k : Nat} {v : Nat} {t : Nat} {u : Nat} {q : Nat} {j : Nat} {z8 : Option AV} {z9 : Option AV} {z10 : Option AV} {z11 : Option AV} (u_k : k ≤ 7) (u_v : v ≤ 5) (u_t : t ≤ 200600) (u_u : u ≤ 40) (u_q : q ≤ 758) (u_j : j ≤ 399) (q1 : k < sn S 1) (q2 : v < sn S 0) (q3 : j < e) (q4 : e ≤ 400) (q5 : 2 ≤ u) (hj : S (q + 3) = nI e) (hc : S (758 + 2 * j) = nI 13)
    (o1 : (sg 807 ((u - 1) - 1) ≤ sg 807 (u - 1)) → ∀ s9 : Mg, s9 = mu sg 807 ((u - 1) - 1) 0 → gW X (d + 4) k_250 15 [some (vR 800), z, some (vI (nI k)), some (vI (nI v)), some (vI (nI t)), some (vI (nI (u - 1))), some (vI (nI q)), some (vI (nI (j + 1))), some (vI 13), some (vI (sg 807 ((u - 1) - 1))), some (vI (sg 807 (u - 1))), some (vI 0)] [] p s9 Q)
    (o2 : (¬ (sg 807 ((u - 1) - 1) ≤ sg 807 (u - 1))) → ∀ s12 : Mg, s12 = mu sg 807 ((u - 1) - 1) 1 → gW X (d + 4) k_250 15 [some (vR 800), z, some (vI (nI k)), some (vI (nI v)), some (vI (nI t)), some (vI (nI (u - 1))), some (vI (nI q)), some (vI (nI (j + 1))), some (vI 13), some (vI (sg 807 ((u - 1) - 1))), some (vI (sg 807 (u - 1))), some (vI 1)] [] p s12 Q) :
    gW X (d + 4) k_250 15 [some (vR 800), z, some (vI (nI k)), some (vI (nI v)), some (vI (nI t)), some (vI (nI u)), some (vI (nI q)), some (vI (nI j)), z8, z9, z10, z11] [] p sg Q := by
  have b0 := hI.b0; have b1 := hI.b1; have b2 := hI.b2; have b3 := hI.b3; have b4 := hI.b4; have b5 := hI.b5; have b6 := hI.b6; have b7 := hI.b7; have b8 := hI.b8; have b9 := hI.b9; have b14 := hI.b14
  refine g_pure 6 (i' := 21) (lv' := [some (vR 800), z, some (vI (nI k)), some (vI (nI v)), some (vI (nI t)), some (vI (nI u)), some (vI (nI q)), some (vI (nI j)), z8, z9, z10, z11]) (st' := [vI (nI q + 3), vR 801, vI (nI j)]) rfl ?_
  refine gW_eq (lv' := [some (vR 800), z, some (vI (nI k)), some (vI (nI v)), some (vI (nI t)), some (vI (nI u)), some (vI (nI q)), some (vI (nI j)), z8, z9, z10, z11]) (st' := [vI (nI (q + 3)), vR 801, vI (nI j)]) rfl (by rw [(show (nI q + 3) = nI (q + 3) from ((g_add (rfl : nI q = nI q) (show (3 : Int32) = nI 3 from rfl))).trans (congrArg nI (by omega)))]) rfl ?_
  refine g_ald rfl (g_A (a := 801) (kd := 1) (n := 2407) rfl (by decide)) (by decide) (show nI (q + 3) = nI (q + 3) from (rfl : nI (q + 3) = nI (q + 3))) (by omega) (show _ = nI e from ((congrFun hS (q + 3))).trans hj) ?_
  refine g_if2 (i' := 148) (P := e ≤ j) rfl rfl (g_geN (show nI j = nI j from (rfl : nI j = nI j)) (show nI e = nI e from (rfl : nI e = nI e)) (by omega) (by omega)) (fun h1 => absurd h1 (by omega)) (fun _ => ?_)
  refine g_pure 7 (i' := 30) (lv' := [some (vR 800), z, some (vI (nI k)), some (vI (nI v)), some (vI (nI t)), some (vI (nI u)), some (vI (nI q)), some (vI (nI j)), z8, z9, z10, z11]) (st' := [vI (758 + (2 * nI j)), vR 801]) rfl ?_
  refine gW_eq (lv' := [some (vR 800), z, some (vI (nI k)), some (vI (nI v)), some (vI (nI t)), some (vI (nI u)), some (vI (nI q)), some (vI (nI j)), z8, z9, z10, z11]) (st' := [vI (nI (758 + 2 * j)), vR 801]) rfl (by rw [(show (758 + (2 * nI j)) = nI (758 + 2 * j) from ((g_add (show (758 : Int32) = nI 758 from rfl) (g_mul (show (2 : Int32) = nI 2 from rfl) (rfl : nI j = nI j)))).trans (congrArg nI (by omega)))]) rfl ?_
  refine g_ald rfl (g_A (a := 801) (kd := 1) (n := 2407) rfl (by decide)) (by decide) (show nI (758 + 2 * j) = nI (758 + 2 * j) from (rfl : nI (758 + 2 * j) = nI (758 + 2 * j))) (by omega) (show _ = nI 13 from ((congrFun hS (758 + 2 * j))).trans hc) ?_
  refine g_pure 3 (i' := 34) (lv' := [some (vR 800), z, some (vI (nI k)), some (vI (nI v)), some (vI (nI t)), some (vI (nI u)), some (vI (nI q)), some (vI (nI j)), some (vI (nI 13)), z9, z10, z11]) (st' := [vI 10, vI (nI 13)]) rfl ?_
  refine gW_eq (lv' := [some (vR 800), z, some (vI (nI k)), some (vI (nI v)), some (vI (nI t)), some (vI (nI u)), some (vI (nI q)), some (vI (nI j)), some (vI 13), z9, z10, z11]) (st' := [vI 10, vI 13]) (by rw [(show (nI 13 : Int32) = 13 from rfl)]) (by rw [(show (nI 13 : Int32) = 13 from rfl)]) rfl ?_
  refine g_if2 (i' := 57) (P := 10 < 13) rfl rfl (g_gtN (show 13 = nI 13 from (show (13 : Int32) = nI 13 from rfl)) (show 10 = nI 10 from (show (10 : Int32) = nI 10 from rfl)) (by omega) (by omega)) (fun _ => ?_) (fun h2 => absurd (by omega) h2)
  refine g_pure 2 (i' := 59) (lv' := [some (vR 800), z, some (vI (nI k)), some (vI (nI v)), some (vI (nI t)), some (vI (nI u)), some (vI (nI q)), some (vI (nI j)), some (vI 13), z9, z10, z11]) (st' := [vI 14, vI 13]) rfl ?_
  refine g_if2 (i' := 75) (P := ¬ 13 = 14) rfl rfl (g_neN (show 13 = nI 13 from (show (13 : Int32) = nI 13 from rfl)) (show 14 = nI 14 from (show (14 : Int32) = nI 14 from rfl)) (by omega) (by omega)) (fun _ => ?_) (fun h3 => absurd (by omega) h3)
  refine g_pure 5 (i' := 80) (lv' := [some (vR 800), z, some (vI (nI k)), some (vI (nI v)), some (vI (nI t)), some (vI (nI u + -1)), some (vI (nI q)), some (vI (nI j)), some (vI 13), z9, z10, z11]) (st' := [vI 1, vI (nI u + -1), vR 807]) rfl ?_
  refine gW_eq (lv' := [some (vR 800), z, some (vI (nI k)), some (vI (nI v)), some (vI (nI t)), some (vI (nI (u - 1))), some (vI (nI q)), some (vI (nI j)), some (vI 13), z9, z10, z11]) (st' := [vI 1, vI (nI (u - 1)), vR 807]) (by rw [(show (nI u + -1) = nI (u - 1) from (g_dec (rfl : nI u = nI u) (by omega)))]) (by rw [(show (nI u + -1) = nI (u - 1) from (g_dec (rfl : nI u = nI u) (by omega)))]) rfl ?_
  refine g_pure 1 (i' := 81) (lv' := [some (vR 800), z, some (vI (nI k)), some (vI (nI v)), some (vI (nI t)), some (vI (nI (u - 1))), some (vI (nI q)), some (vI (nI j)), some (vI 13), z9, z10, z11]) (st' := [vI (nI (u - 1) - 1), vR 807]) rfl ?_
  refine gW_eq (lv' := [some (vR 800), z, some (vI (nI k)), some (vI (nI v)), some (vI (nI t)), some (vI (nI (u - 1))), some (vI (nI q)), some (vI (nI j)), some (vI 13), z9, z10, z11]) (st' := [vI (nI ((u - 1) - 1)), vR 807]) rfl (by rw [(show (nI (u - 1) - 1) = nI ((u - 1) - 1) from (g_sub (rfl : nI (u - 1) = nI (u - 1)) (show (1 : Int32) = nI 1 from rfl) (by omega)))]) rfl ?_
  refine g_ald rfl (g_A (a := 807) (kd := 1) (n := 400) rfl (by decide)) (by decide) (show nI ((u - 1) - 1) = nI ((u - 1) - 1) from (rfl : nI ((u - 1) - 1) = nI ((u - 1) - 1))) (by omega) (show _ = sg 807 ((u - 1) - 1) from rfl) ?_
  refine g_pure 4 (i' := 86) (lv' := [some (vR 800), z, some (vI (nI k)), some (vI (nI v)), some (vI (nI t)), some (vI (nI (u - 1))), some (vI (nI q)), some (vI (nI j)), some (vI 13), some (vI (sg 807 ((u - 1) - 1))), z10, z11]) (st' := [vI (nI (u - 1)), vR 807]) rfl ?_
  refine g_ald rfl (g_A (a := 807) (kd := 1) (n := 400) rfl (by decide)) (by decide) (show nI (u - 1) = nI (u - 1) from (rfl : nI (u - 1) = nI (u - 1))) (by omega) (show _ = sg 807 (u - 1) from rfl) ?_
  refine g_pure 3 (i' := 90) (lv' := [some (vR 800), z, some (vI (nI k)), some (vI (nI v)), some (vI (nI t)), some (vI (nI (u - 1))), some (vI (nI q)), some (vI (nI j)), some (vI 13), some (vI (sg 807 ((u - 1) - 1))), some (vI (sg 807 (u - 1))), z11]) (st' := [vI 12, vI 13]) rfl ?_
  refine g_if2 (i' := 98) (P := ¬ 13 = 12) rfl rfl (g_neN (show 13 = nI 13 from (show (13 : Int32) = nI 13 from rfl)) (show 12 = nI 12 from (show (12 : Int32) = nI 12 from rfl)) (by omega) (by omega)) (fun _ => ?_) (fun h4 => absurd (by omega) h4)
  refine g_pure 2 (i' := 100) (lv' := [some (vR 800), z, some (vI (nI k)), some (vI (nI v)), some (vI (nI t)), some (vI (nI (u - 1))), some (vI (nI q)), some (vI (nI j)), some (vI 13), some (vI (sg 807 ((u - 1) - 1))), some (vI (sg 807 (u - 1))), z11]) (st' := [vI 13, vI 13]) rfl ?_
  refine g_if2 (i' := 108) (P := ¬ 13 = 13) rfl rfl (g_neN (show 13 = nI 13 from (show (13 : Int32) = nI 13 from rfl)) (show 13 = nI 13 from (show (13 : Int32) = nI 13 from rfl)) (by omega) (by omega)) (fun h5 => absurd h5 (by omega)) (fun _ => ?_)
  refine g_pure 2 (i' := 103) (lv' := [some (vR 800), z, some (vI (nI k)), some (vI (nI v)), some (vI (nI t)), some (vI (nI (u - 1))), some (vI (nI q)), some (vI (nI j)), some (vI 13), some (vI (sg 807 ((u - 1) - 1))), some (vI (sg 807 (u - 1))), z11]) (st' := [vI (sg 807 (u - 1)), vI (sg 807 ((u - 1) - 1))]) rfl ?_
  refine g_if2 (i' := 106) (P := sg 807 ((u - 1) - 1) ≤ sg 807 (u - 1)) rfl rfl Iff.rfl (fun h6 => ?_) (fun h6 => ?_)
  · refine g_pure 10 (i' := 135) (lv' := [some (vR 800), z, some (vI (nI k)), some (vI (nI v)), some (vI (nI t)), some (vI (nI (u - 1))), some (vI (nI q)), some (vI (nI j)), some (vI 13), some (vI (sg 807 ((u - 1) - 1))), some (vI (sg 807 (u - 1))), some (vI 0)]) (st' := [vI 11, vI 13, vI (nI (u - 1) - 1), vR 807]) rfl ?_
    refine gW_eq (lv' := [some (vR 800), z, some (vI (nI k)), some (vI (nI v)), some (vI (nI t)), some (vI (nI (u - 1))), some (vI (nI q)), some (vI (nI j)), some (vI 13), some (vI (sg 807 ((u - 1) - 1))), some (vI (sg 807 (u - 1))), some (vI 0)]) (st' := [vI 11, vI 13, vI (nI ((u - 1) - 1)), vR 807]) rfl (by rw [(show (nI (u - 1) - 1) = nI ((u - 1) - 1) from (g_sub (rfl : nI (u - 1) = nI (u - 1)) (show (1 : Int32) = nI 1 from rfl) (by omega)))]) rfl ?_
    refine g_if2 (i' := 140) (P := ¬ 13 = 11) rfl rfl (g_neN (show 13 = nI 13 from (show (13 : Int32) = nI 13 from rfl)) (show 11 = nI 11 from (show (11 : Int32) = nI 11 from rfl)) (by omega) (by omega)) (fun _ => ?_) (fun h7 => absurd (by omega) h7)
    refine g_pure 1 (i' := 141) (lv' := [some (vR 800), z, some (vI (nI k)), some (vI (nI v)), some (vI (nI t)), some (vI (nI (u - 1))), some (vI (nI q)), some (vI (nI j)), some (vI 13), some (vI (sg 807 ((u - 1) - 1))), some (vI (sg 807 (u - 1))), some (vI 0)]) (st' := [vI 0, vI (nI ((u - 1) - 1)), vR 807]) rfl ?_
    refine g_if1 (i' := 144) (P := 0 = 0) rfl rfl (g_eqN (show 0 = nI 0 from (show (0 : Int32) = nI 0 from rfl)) (show 0 = nI 0 from (show (0 : Int32) = nI 0 from rfl)) (by omega) (by omega)) (fun _ => ?_) (fun h8 => absurd (by omega) h8)
    refine g_pure 1 (i' := 145) (lv' := [some (vR 800), z, some (vI (nI k)), some (vI (nI v)), some (vI (nI t)), some (vI (nI (u - 1))), some (vI (nI q)), some (vI (nI j)), some (vI 13), some (vI (sg 807 ((u - 1) - 1))), some (vI (sg 807 (u - 1))), some (vI 0)]) (st' := [vI 0, vI (nI ((u - 1) - 1)), vR 807]) rfl ?_
    refine g_ast rfl (g_A (a := 807) (kd := 1) (n := 400) rfl (by decide)) (by decide) (show nI ((u - 1) - 1) = nI ((u - 1) - 1) from (rfl : nI ((u - 1) - 1) = nI ((u - 1) - 1))) (by omega) ?_
    refine g_setv (fun s9 es9 => ?_)
    have hSs9 : s9 801 = S := by rw [es9, mu_ne (by decide), hS]
    refine g_pure 2 (i' := 15) (lv' := [some (vR 800), z, some (vI (nI k)), some (vI (nI v)), some (vI (nI t)), some (vI (nI (u - 1))), some (vI (nI q)), some (vI (nI j + 1)), some (vI 13), some (vI (sg 807 ((u - 1) - 1))), some (vI (sg 807 (u - 1))), some (vI 0)]) (st' := []) rfl ?_
    refine gW_eq (lv' := [some (vR 800), z, some (vI (nI k)), some (vI (nI v)), some (vI (nI t)), some (vI (nI (u - 1))), some (vI (nI q)), some (vI (nI (j + 1))), some (vI 13), some (vI (sg 807 ((u - 1) - 1))), some (vI (sg 807 (u - 1))), some (vI 0)]) (st' := []) (by rw [(show (nI j + 1) = nI (j + 1) from ((g_add (rfl : nI j = nI j) (show (1 : Int32) = nI 1 from rfl))).trans (congrArg nI (by omega)))]) rfl rfl ?_
    exact o1 h6 s9 es9
  · refine g_pure 10 (i' := 135) (lv' := [some (vR 800), z, some (vI (nI k)), some (vI (nI v)), some (vI (nI t)), some (vI (nI (u - 1))), some (vI (nI q)), some (vI (nI j)), some (vI 13), some (vI (sg 807 ((u - 1) - 1))), some (vI (sg 807 (u - 1))), some (vI 1)]) (st' := [vI 11, vI 13, vI (nI (u - 1) - 1), vR 807]) rfl ?_
    refine gW_eq (lv' := [some (vR 800), z, some (vI (nI k)), some (vI (nI v)), some (vI (nI t)), some (vI (nI (u - 1))), some (vI (nI q)), some (vI (nI j)), some (vI 13), some (vI (sg 807 ((u - 1) - 1))), some (vI (sg 807 (u - 1))), some (vI 1)]) (st' := [vI 11, vI 13, vI (nI ((u - 1) - 1)), vR 807]) rfl (by rw [(show (nI (u - 1) - 1) = nI ((u - 1) - 1) from (g_sub (rfl : nI (u - 1) = nI (u - 1)) (show (1 : Int32) = nI 1 from rfl) (by omega)))]) rfl ?_
    refine g_if2 (i' := 140) (P := ¬ 13 = 11) rfl rfl (g_neN (show 13 = nI 13 from (show (13 : Int32) = nI 13 from rfl)) (show 11 = nI 11 from (show (11 : Int32) = nI 11 from rfl)) (by omega) (by omega)) (fun _ => ?_) (fun h10 => absurd (by omega) h10)
    refine g_pure 1 (i' := 141) (lv' := [some (vR 800), z, some (vI (nI k)), some (vI (nI v)), some (vI (nI t)), some (vI (nI (u - 1))), some (vI (nI q)), some (vI (nI j)), some (vI 13), some (vI (sg 807 ((u - 1) - 1))), some (vI (sg 807 (u - 1))), some (vI 1)]) (st' := [vI 1, vI (nI ((u - 1) - 1)), vR 807]) rfl ?_
    refine g_if1 (i' := 144) (P := 1 = 0) rfl rfl (g_eqN (show 1 = nI 1 from (show (1 : Int32) = nI 1 from rfl)) (show 0 = nI 0 from (show (0 : Int32) = nI 0 from rfl)) (by omega) (by omega)) (fun h11 => absurd h11 (by omega)) (fun _ => ?_)
    refine g_pure 2 (i' := 145) (lv' := [some (vR 800), z, some (vI (nI k)), some (vI (nI v)), some (vI (nI t)), some (vI (nI (u - 1))), some (vI (nI q)), some (vI (nI j)), some (vI 13), some (vI (sg 807 ((u - 1) - 1))), some (vI (sg 807 (u - 1))), some (vI 1)]) (st' := [vI 1, vI (nI ((u - 1) - 1)), vR 807]) rfl ?_
    refine g_ast rfl (g_A (a := 807) (kd := 1) (n := 400) rfl (by decide)) (by decide) (show nI ((u - 1) - 1) = nI ((u - 1) - 1) from (rfl : nI ((u - 1) - 1) = nI ((u - 1) - 1))) (by omega) ?_
    refine g_setv (fun s12 es12 => ?_)
    have hSs12 : s12 801 = S := by rw [es12, mu_ne (by decide), hS]
    refine g_pure 2 (i' := 15) (lv' := [some (vR 800), z, some (vI (nI k)), some (vI (nI v)), some (vI (nI t)), some (vI (nI (u - 1))), some (vI (nI q)), some (vI (nI j + 1)), some (vI 13), some (vI (sg 807 ((u - 1) - 1))), some (vI (sg 807 (u - 1))), some (vI 1)]) (st' := []) rfl ?_
    refine gW_eq (lv' := [some (vR 800), z, some (vI (nI k)), some (vI (nI v)), some (vI (nI t)), some (vI (nI (u - 1))), some (vI (nI q)), some (vI (nI (j + 1))), some (vI 13), some (vI (sg 807 ((u - 1) - 1))), some (vI (sg 807 (u - 1))), some (vI 1)]) (st' := []) (by rw [(show (nI j + 1) = nI (j + 1) from ((g_add (rfl : nI j = nI j) (show (1 : Int32) = nI 1 from rfl))).trans (congrArg nI (by omega)))]) rfl rfl ?_
    exact o2 h6 s12 es12

theorem b_250_b15 {X : Nat × (Nat → Int32)} {d : Nat} {p : Nat → Nat} {sg : Mg} {Q : am_R → Prop} {B : Nat} {S : Nat → Int32} (hI : Inv B S) (hS : sg 801 = S) {e : Nat} {z : Option AV} {k : Nat} {v : Nat} {t : Nat} {u : Nat} {q : Nat} {j : Nat} {z8 : Option AV} {z9 : Option AV} {z10 : Option AV} {z11 : Option AV} (u_k : k ≤ 7) (u_v : v ≤ 5) (u_t : t ≤ 200600) (u_u : u ≤ 40) (u_q : q ≤ 758) (u_j : j ≤ 399) (q1 : k < sn S 1) (q2 : v < sn S 0) (q3 : j < e) (q4 : e ≤ 400) (q5 : 2 ≤ u) (hj : S (q + 3) = nI e) (hc : S (758 + 2 * j) = nI 15)
    (o1 : (¬ (sg 807 ((u - 1) - 1) + sg 807 (u - 1)) = 2) → ∀ s10 : Mg, s10 = mu sg 807 ((u - 1) - 1) 0 → gW X (d + 4) k_250 15 [some (vR 800), z, some (vI (nI k)), some (vI (nI v)), some (vI (nI t)), some (vI (nI (u - 1))), some (vI (nI q)), some (vI (nI (j + 1))), some (vI 15), some (vI (sg 807 ((u - 1) - 1))), some (vI (sg 807 (u - 1))), some (vI 0)] [] p s10 Q)
    (o2 : ((sg 807 ((u - 1) - 1) + sg 807 (u - 1)) = 2) → ∀ s13 : Mg, s13 = mu sg 807 ((u - 1) - 1) 1 → gW X (d + 4) k_250 15 [some (vR 800), z, some (vI (nI k)), some (vI (nI v)), some (vI (nI t)), some (vI (nI (u - 1))), some (vI (nI q)), some (vI (nI (j + 1))), some (vI 15), some (vI (sg 807 ((u - 1) - 1))), some (vI (sg 807 (u - 1))), some (vI 1)] [] p s13 Q) :
    gW X (d + 4) k_250 15 [some (vR 800), z, some (vI (nI k)), some (vI (nI v)), some (vI (nI t)), some (vI (nI u)), some (vI (nI q)), some (vI (nI j)), z8, z9, z10, z11] [] p sg Q := by
  have b0 := hI.b0; have b1 := hI.b1; have b2 := hI.b2; have b3 := hI.b3; have b4 := hI.b4; have b5 := hI.b5; have b6 := hI.b6; have b7 := hI.b7; have b8 := hI.b8; have b9 := hI.b9; have b14 := hI.b14
  refine g_pure 6 (i' := 21) (lv' := [some (vR 800), z, some (vI (nI k)), some (vI (nI v)), some (vI (nI t)), some (vI (nI u)), some (vI (nI q)), some (vI (nI j)), z8, z9, z10, z11]) (st' := [vI (nI q + 3), vR 801, vI (nI j)]) rfl ?_
  refine gW_eq (lv' := [some (vR 800), z, some (vI (nI k)), some (vI (nI v)), some (vI (nI t)), some (vI (nI u)), some (vI (nI q)), some (vI (nI j)), z8, z9, z10, z11]) (st' := [vI (nI (q + 3)), vR 801, vI (nI j)]) rfl (by rw [(show (nI q + 3) = nI (q + 3) from ((g_add (rfl : nI q = nI q) (show (3 : Int32) = nI 3 from rfl))).trans (congrArg nI (by omega)))]) rfl ?_
  refine g_ald rfl (g_A (a := 801) (kd := 1) (n := 2407) rfl (by decide)) (by decide) (show nI (q + 3) = nI (q + 3) from (rfl : nI (q + 3) = nI (q + 3))) (by omega) (show _ = nI e from ((congrFun hS (q + 3))).trans hj) ?_
  refine g_if2 (i' := 148) (P := e ≤ j) rfl rfl (g_geN (show nI j = nI j from (rfl : nI j = nI j)) (show nI e = nI e from (rfl : nI e = nI e)) (by omega) (by omega)) (fun h1 => absurd h1 (by omega)) (fun _ => ?_)
  refine g_pure 7 (i' := 30) (lv' := [some (vR 800), z, some (vI (nI k)), some (vI (nI v)), some (vI (nI t)), some (vI (nI u)), some (vI (nI q)), some (vI (nI j)), z8, z9, z10, z11]) (st' := [vI (758 + (2 * nI j)), vR 801]) rfl ?_
  refine gW_eq (lv' := [some (vR 800), z, some (vI (nI k)), some (vI (nI v)), some (vI (nI t)), some (vI (nI u)), some (vI (nI q)), some (vI (nI j)), z8, z9, z10, z11]) (st' := [vI (nI (758 + 2 * j)), vR 801]) rfl (by rw [(show (758 + (2 * nI j)) = nI (758 + 2 * j) from ((g_add (show (758 : Int32) = nI 758 from rfl) (g_mul (show (2 : Int32) = nI 2 from rfl) (rfl : nI j = nI j)))).trans (congrArg nI (by omega)))]) rfl ?_
  refine g_ald rfl (g_A (a := 801) (kd := 1) (n := 2407) rfl (by decide)) (by decide) (show nI (758 + 2 * j) = nI (758 + 2 * j) from (rfl : nI (758 + 2 * j) = nI (758 + 2 * j))) (by omega) (show _ = nI 15 from ((congrFun hS (758 + 2 * j))).trans hc) ?_
  refine g_pure 3 (i' := 34) (lv' := [some (vR 800), z, some (vI (nI k)), some (vI (nI v)), some (vI (nI t)), some (vI (nI u)), some (vI (nI q)), some (vI (nI j)), some (vI (nI 15)), z9, z10, z11]) (st' := [vI 10, vI (nI 15)]) rfl ?_
  refine gW_eq (lv' := [some (vR 800), z, some (vI (nI k)), some (vI (nI v)), some (vI (nI t)), some (vI (nI u)), some (vI (nI q)), some (vI (nI j)), some (vI 15), z9, z10, z11]) (st' := [vI 10, vI 15]) (by rw [(show (nI 15 : Int32) = 15 from rfl)]) (by rw [(show (nI 15 : Int32) = 15 from rfl)]) rfl ?_
  refine g_if2 (i' := 57) (P := 10 < 15) rfl rfl (g_gtN (show 15 = nI 15 from (show (15 : Int32) = nI 15 from rfl)) (show 10 = nI 10 from (show (10 : Int32) = nI 10 from rfl)) (by omega) (by omega)) (fun _ => ?_) (fun h2 => absurd (by omega) h2)
  refine g_pure 2 (i' := 59) (lv' := [some (vR 800), z, some (vI (nI k)), some (vI (nI v)), some (vI (nI t)), some (vI (nI u)), some (vI (nI q)), some (vI (nI j)), some (vI 15), z9, z10, z11]) (st' := [vI 14, vI 15]) rfl ?_
  refine g_if2 (i' := 75) (P := ¬ 15 = 14) rfl rfl (g_neN (show 15 = nI 15 from (show (15 : Int32) = nI 15 from rfl)) (show 14 = nI 14 from (show (14 : Int32) = nI 14 from rfl)) (by omega) (by omega)) (fun _ => ?_) (fun h3 => absurd (by omega) h3)
  refine g_pure 5 (i' := 80) (lv' := [some (vR 800), z, some (vI (nI k)), some (vI (nI v)), some (vI (nI t)), some (vI (nI u + -1)), some (vI (nI q)), some (vI (nI j)), some (vI 15), z9, z10, z11]) (st' := [vI 1, vI (nI u + -1), vR 807]) rfl ?_
  refine gW_eq (lv' := [some (vR 800), z, some (vI (nI k)), some (vI (nI v)), some (vI (nI t)), some (vI (nI (u - 1))), some (vI (nI q)), some (vI (nI j)), some (vI 15), z9, z10, z11]) (st' := [vI 1, vI (nI (u - 1)), vR 807]) (by rw [(show (nI u + -1) = nI (u - 1) from (g_dec (rfl : nI u = nI u) (by omega)))]) (by rw [(show (nI u + -1) = nI (u - 1) from (g_dec (rfl : nI u = nI u) (by omega)))]) rfl ?_
  refine g_pure 1 (i' := 81) (lv' := [some (vR 800), z, some (vI (nI k)), some (vI (nI v)), some (vI (nI t)), some (vI (nI (u - 1))), some (vI (nI q)), some (vI (nI j)), some (vI 15), z9, z10, z11]) (st' := [vI (nI (u - 1) - 1), vR 807]) rfl ?_
  refine gW_eq (lv' := [some (vR 800), z, some (vI (nI k)), some (vI (nI v)), some (vI (nI t)), some (vI (nI (u - 1))), some (vI (nI q)), some (vI (nI j)), some (vI 15), z9, z10, z11]) (st' := [vI (nI ((u - 1) - 1)), vR 807]) rfl (by rw [(show (nI (u - 1) - 1) = nI ((u - 1) - 1) from (g_sub (rfl : nI (u - 1) = nI (u - 1)) (show (1 : Int32) = nI 1 from rfl) (by omega)))]) rfl ?_
  refine g_ald rfl (g_A (a := 807) (kd := 1) (n := 400) rfl (by decide)) (by decide) (show nI ((u - 1) - 1) = nI ((u - 1) - 1) from (rfl : nI ((u - 1) - 1) = nI ((u - 1) - 1))) (by omega) (show _ = sg 807 ((u - 1) - 1) from rfl) ?_
  refine g_pure 4 (i' := 86) (lv' := [some (vR 800), z, some (vI (nI k)), some (vI (nI v)), some (vI (nI t)), some (vI (nI (u - 1))), some (vI (nI q)), some (vI (nI j)), some (vI 15), some (vI (sg 807 ((u - 1) - 1))), z10, z11]) (st' := [vI (nI (u - 1)), vR 807]) rfl ?_
  refine g_ald rfl (g_A (a := 807) (kd := 1) (n := 400) rfl (by decide)) (by decide) (show nI (u - 1) = nI (u - 1) from (rfl : nI (u - 1) = nI (u - 1))) (by omega) (show _ = sg 807 (u - 1) from rfl) ?_
  refine g_pure 3 (i' := 90) (lv' := [some (vR 800), z, some (vI (nI k)), some (vI (nI v)), some (vI (nI t)), some (vI (nI (u - 1))), some (vI (nI q)), some (vI (nI j)), some (vI 15), some (vI (sg 807 ((u - 1) - 1))), some (vI (sg 807 (u - 1))), z11]) (st' := [vI 12, vI 15]) rfl ?_
  refine g_if2 (i' := 98) (P := ¬ 15 = 12) rfl rfl (g_neN (show 15 = nI 15 from (show (15 : Int32) = nI 15 from rfl)) (show 12 = nI 12 from (show (12 : Int32) = nI 12 from rfl)) (by omega) (by omega)) (fun _ => ?_) (fun h4 => absurd (by omega) h4)
  refine g_pure 2 (i' := 100) (lv' := [some (vR 800), z, some (vI (nI k)), some (vI (nI v)), some (vI (nI t)), some (vI (nI (u - 1))), some (vI (nI q)), some (vI (nI j)), some (vI 15), some (vI (sg 807 ((u - 1) - 1))), some (vI (sg 807 (u - 1))), z11]) (st' := [vI 13, vI 15]) rfl ?_
  refine g_if2 (i' := 108) (P := ¬ 15 = 13) rfl rfl (g_neN (show 15 = nI 15 from (show (15 : Int32) = nI 15 from rfl)) (show 13 = nI 13 from (show (13 : Int32) = nI 13 from rfl)) (by omega) (by omega)) (fun _ => ?_) (fun h5 => absurd (by omega) h5)
  refine g_pure 2 (i' := 110) (lv' := [some (vR 800), z, some (vI (nI k)), some (vI (nI v)), some (vI (nI t)), some (vI (nI (u - 1))), some (vI (nI q)), some (vI (nI j)), some (vI 15), some (vI (sg 807 ((u - 1) - 1))), some (vI (sg 807 (u - 1))), z11]) (st' := [vI 15, vI 15]) rfl ?_
  refine g_if2 (i' := 120) (P := ¬ 15 = 15) rfl rfl (g_neN (show 15 = nI 15 from (show (15 : Int32) = nI 15 from rfl)) (show 15 = nI 15 from (show (15 : Int32) = nI 15 from rfl)) (by omega) (by omega)) (fun h6 => absurd h6 (by omega)) (fun _ => ?_)
  refine g_pure 4 (i' := 115) (lv' := [some (vR 800), z, some (vI (nI k)), some (vI (nI v)), some (vI (nI t)), some (vI (nI (u - 1))), some (vI (nI q)), some (vI (nI j)), some (vI 15), some (vI (sg 807 ((u - 1) - 1))), some (vI (sg 807 (u - 1))), z11]) (st' := [vI 2, vI (sg 807 ((u - 1) - 1) + sg 807 (u - 1))]) rfl ?_
  refine g_if2 (i' := 118) (P := ¬ (sg 807 ((u - 1) - 1) + sg 807 (u - 1)) = 2) rfl rfl Iff.rfl (fun h7 => ?_) (fun h7 => ?_)
  · refine g_pure 10 (i' := 135) (lv' := [some (vR 800), z, some (vI (nI k)), some (vI (nI v)), some (vI (nI t)), some (vI (nI (u - 1))), some (vI (nI q)), some (vI (nI j)), some (vI 15), some (vI (sg 807 ((u - 1) - 1))), some (vI (sg 807 (u - 1))), some (vI 0)]) (st' := [vI 11, vI 15, vI (nI (u - 1) - 1), vR 807]) rfl ?_
    refine gW_eq (lv' := [some (vR 800), z, some (vI (nI k)), some (vI (nI v)), some (vI (nI t)), some (vI (nI (u - 1))), some (vI (nI q)), some (vI (nI j)), some (vI 15), some (vI (sg 807 ((u - 1) - 1))), some (vI (sg 807 (u - 1))), some (vI 0)]) (st' := [vI 11, vI 15, vI (nI ((u - 1) - 1)), vR 807]) rfl (by rw [(show (nI (u - 1) - 1) = nI ((u - 1) - 1) from (g_sub (rfl : nI (u - 1) = nI (u - 1)) (show (1 : Int32) = nI 1 from rfl) (by omega)))]) rfl ?_
    refine g_if2 (i' := 140) (P := ¬ 15 = 11) rfl rfl (g_neN (show 15 = nI 15 from (show (15 : Int32) = nI 15 from rfl)) (show 11 = nI 11 from (show (11 : Int32) = nI 11 from rfl)) (by omega) (by omega)) (fun _ => ?_) (fun h8 => absurd (by omega) h8)
    refine g_pure 1 (i' := 141) (lv' := [some (vR 800), z, some (vI (nI k)), some (vI (nI v)), some (vI (nI t)), some (vI (nI (u - 1))), some (vI (nI q)), some (vI (nI j)), some (vI 15), some (vI (sg 807 ((u - 1) - 1))), some (vI (sg 807 (u - 1))), some (vI 0)]) (st' := [vI 0, vI (nI ((u - 1) - 1)), vR 807]) rfl ?_
    refine g_if1 (i' := 144) (P := 0 = 0) rfl rfl (g_eqN (show 0 = nI 0 from (show (0 : Int32) = nI 0 from rfl)) (show 0 = nI 0 from (show (0 : Int32) = nI 0 from rfl)) (by omega) (by omega)) (fun _ => ?_) (fun h9 => absurd (by omega) h9)
    refine g_pure 1 (i' := 145) (lv' := [some (vR 800), z, some (vI (nI k)), some (vI (nI v)), some (vI (nI t)), some (vI (nI (u - 1))), some (vI (nI q)), some (vI (nI j)), some (vI 15), some (vI (sg 807 ((u - 1) - 1))), some (vI (sg 807 (u - 1))), some (vI 0)]) (st' := [vI 0, vI (nI ((u - 1) - 1)), vR 807]) rfl ?_
    refine g_ast rfl (g_A (a := 807) (kd := 1) (n := 400) rfl (by decide)) (by decide) (show nI ((u - 1) - 1) = nI ((u - 1) - 1) from (rfl : nI ((u - 1) - 1) = nI ((u - 1) - 1))) (by omega) ?_
    refine g_setv (fun s10 es10 => ?_)
    have hSs10 : s10 801 = S := by rw [es10, mu_ne (by decide), hS]
    refine g_pure 2 (i' := 15) (lv' := [some (vR 800), z, some (vI (nI k)), some (vI (nI v)), some (vI (nI t)), some (vI (nI (u - 1))), some (vI (nI q)), some (vI (nI j + 1)), some (vI 15), some (vI (sg 807 ((u - 1) - 1))), some (vI (sg 807 (u - 1))), some (vI 0)]) (st' := []) rfl ?_
    refine gW_eq (lv' := [some (vR 800), z, some (vI (nI k)), some (vI (nI v)), some (vI (nI t)), some (vI (nI (u - 1))), some (vI (nI q)), some (vI (nI (j + 1))), some (vI 15), some (vI (sg 807 ((u - 1) - 1))), some (vI (sg 807 (u - 1))), some (vI 0)]) (st' := []) (by rw [(show (nI j + 1) = nI (j + 1) from ((g_add (rfl : nI j = nI j) (show (1 : Int32) = nI 1 from rfl))).trans (congrArg nI (by omega)))]) rfl rfl ?_
    exact o1 h7 s10 es10
  · have h7 := Classical.not_not.mp h7
    refine g_pure 10 (i' := 135) (lv' := [some (vR 800), z, some (vI (nI k)), some (vI (nI v)), some (vI (nI t)), some (vI (nI (u - 1))), some (vI (nI q)), some (vI (nI j)), some (vI 15), some (vI (sg 807 ((u - 1) - 1))), some (vI (sg 807 (u - 1))), some (vI 1)]) (st' := [vI 11, vI 15, vI (nI (u - 1) - 1), vR 807]) rfl ?_
    refine gW_eq (lv' := [some (vR 800), z, some (vI (nI k)), some (vI (nI v)), some (vI (nI t)), some (vI (nI (u - 1))), some (vI (nI q)), some (vI (nI j)), some (vI 15), some (vI (sg 807 ((u - 1) - 1))), some (vI (sg 807 (u - 1))), some (vI 1)]) (st' := [vI 11, vI 15, vI (nI ((u - 1) - 1)), vR 807]) rfl (by rw [(show (nI (u - 1) - 1) = nI ((u - 1) - 1) from (g_sub (rfl : nI (u - 1) = nI (u - 1)) (show (1 : Int32) = nI 1 from rfl) (by omega)))]) rfl ?_
    refine g_if2 (i' := 140) (P := ¬ 15 = 11) rfl rfl (g_neN (show 15 = nI 15 from (show (15 : Int32) = nI 15 from rfl)) (show 11 = nI 11 from (show (11 : Int32) = nI 11 from rfl)) (by omega) (by omega)) (fun _ => ?_) (fun h11 => absurd (by omega) h11)
    refine g_pure 1 (i' := 141) (lv' := [some (vR 800), z, some (vI (nI k)), some (vI (nI v)), some (vI (nI t)), some (vI (nI (u - 1))), some (vI (nI q)), some (vI (nI j)), some (vI 15), some (vI (sg 807 ((u - 1) - 1))), some (vI (sg 807 (u - 1))), some (vI 1)]) (st' := [vI 1, vI (nI ((u - 1) - 1)), vR 807]) rfl ?_
    refine g_if1 (i' := 144) (P := 1 = 0) rfl rfl (g_eqN (show 1 = nI 1 from (show (1 : Int32) = nI 1 from rfl)) (show 0 = nI 0 from (show (0 : Int32) = nI 0 from rfl)) (by omega) (by omega)) (fun h12 => absurd h12 (by omega)) (fun _ => ?_)
    refine g_pure 2 (i' := 145) (lv' := [some (vR 800), z, some (vI (nI k)), some (vI (nI v)), some (vI (nI t)), some (vI (nI (u - 1))), some (vI (nI q)), some (vI (nI j)), some (vI 15), some (vI (sg 807 ((u - 1) - 1))), some (vI (sg 807 (u - 1))), some (vI 1)]) (st' := [vI 1, vI (nI ((u - 1) - 1)), vR 807]) rfl ?_
    refine g_ast rfl (g_A (a := 807) (kd := 1) (n := 400) rfl (by decide)) (by decide) (show nI ((u - 1) - 1) = nI ((u - 1) - 1) from (rfl : nI ((u - 1) - 1) = nI ((u - 1) - 1))) (by omega) ?_
    refine g_setv (fun s13 es13 => ?_)
    have hSs13 : s13 801 = S := by rw [es13, mu_ne (by decide), hS]
    refine g_pure 2 (i' := 15) (lv' := [some (vR 800), z, some (vI (nI k)), some (vI (nI v)), some (vI (nI t)), some (vI (nI (u - 1))), some (vI (nI q)), some (vI (nI j + 1)), some (vI 15), some (vI (sg 807 ((u - 1) - 1))), some (vI (sg 807 (u - 1))), some (vI 1)]) (st' := []) rfl ?_
    refine gW_eq (lv' := [some (vR 800), z, some (vI (nI k)), some (vI (nI v)), some (vI (nI t)), some (vI (nI (u - 1))), some (vI (nI q)), some (vI (nI (j + 1))), some (vI 15), some (vI (sg 807 ((u - 1) - 1))), some (vI (sg 807 (u - 1))), some (vI 1)]) (st' := []) (by rw [(show (nI j + 1) = nI (j + 1) from ((g_add (rfl : nI j = nI j) (show (1 : Int32) = nI 1 from rfl))).trans (congrArg nI (by omega)))]) rfl rfl ?_
    exact o2 h7 s13 es13

theorem b_250_b16 {X : Nat × (Nat → Int32)} {d : Nat} {p : Nat → Nat} {sg : Mg} {Q : am_R → Prop} {B : Nat} {S : Nat → Int32} (hI : Inv B S) (hS : sg 801 = S) {e : Nat} {z : Option AV} {k : Nat} {v : Nat} {t : Nat} {u : Nat} {q : Nat} {j : Nat} {z8 : Option AV} {z9 : Option AV} {z10 : Option AV} {z11 : Option AV} (u_k : k ≤ 7) (u_v : v ≤ 5) (u_t : t ≤ 200600) (u_u : u ≤ 40) (u_q : q ≤ 758) (u_j : j ≤ 399) (q1 : k < sn S 1) (q2 : v < sn S 0) (q3 : j < e) (q4 : e ≤ 400) (q5 : 2 ≤ u) (hj : S (q + 3) = nI e) (hc : S (758 + 2 * j) = nI 16)
    (o1 : ((sg 807 ((u - 1) - 1) + sg 807 (u - 1)) ≤ 0) → ∀ s10 : Mg, s10 = mu sg 807 ((u - 1) - 1) 0 → gW X (d + 4) k_250 15 [some (vR 800), z, some (vI (nI k)), some (vI (nI v)), some (vI (nI t)), some (vI (nI (u - 1))), some (vI (nI q)), some (vI (nI (j + 1))), some (vI 16), some (vI (sg 807 ((u - 1) - 1))), some (vI (sg 807 (u - 1))), some (vI 0)] [] p s10 Q)
    (o2 : (¬ ((sg 807 ((u - 1) - 1) + sg 807 (u - 1)) ≤ 0)) → ∀ s13 : Mg, s13 = mu sg 807 ((u - 1) - 1) 1 → gW X (d + 4) k_250 15 [some (vR 800), z, some (vI (nI k)), some (vI (nI v)), some (vI (nI t)), some (vI (nI (u - 1))), some (vI (nI q)), some (vI (nI (j + 1))), some (vI 16), some (vI (sg 807 ((u - 1) - 1))), some (vI (sg 807 (u - 1))), some (vI 1)] [] p s13 Q) :
    gW X (d + 4) k_250 15 [some (vR 800), z, some (vI (nI k)), some (vI (nI v)), some (vI (nI t)), some (vI (nI u)), some (vI (nI q)), some (vI (nI j)), z8, z9, z10, z11] [] p sg Q := by
  have b0 := hI.b0; have b1 := hI.b1; have b2 := hI.b2; have b3 := hI.b3; have b4 := hI.b4; have b5 := hI.b5; have b6 := hI.b6; have b7 := hI.b7; have b8 := hI.b8; have b9 := hI.b9; have b14 := hI.b14
  refine g_pure 6 (i' := 21) (lv' := [some (vR 800), z, some (vI (nI k)), some (vI (nI v)), some (vI (nI t)), some (vI (nI u)), some (vI (nI q)), some (vI (nI j)), z8, z9, z10, z11]) (st' := [vI (nI q + 3), vR 801, vI (nI j)]) rfl ?_
  refine gW_eq (lv' := [some (vR 800), z, some (vI (nI k)), some (vI (nI v)), some (vI (nI t)), some (vI (nI u)), some (vI (nI q)), some (vI (nI j)), z8, z9, z10, z11]) (st' := [vI (nI (q + 3)), vR 801, vI (nI j)]) rfl (by rw [(show (nI q + 3) = nI (q + 3) from ((g_add (rfl : nI q = nI q) (show (3 : Int32) = nI 3 from rfl))).trans (congrArg nI (by omega)))]) rfl ?_
  refine g_ald rfl (g_A (a := 801) (kd := 1) (n := 2407) rfl (by decide)) (by decide) (show nI (q + 3) = nI (q + 3) from (rfl : nI (q + 3) = nI (q + 3))) (by omega) (show _ = nI e from ((congrFun hS (q + 3))).trans hj) ?_
  refine g_if2 (i' := 148) (P := e ≤ j) rfl rfl (g_geN (show nI j = nI j from (rfl : nI j = nI j)) (show nI e = nI e from (rfl : nI e = nI e)) (by omega) (by omega)) (fun h1 => absurd h1 (by omega)) (fun _ => ?_)
  refine g_pure 7 (i' := 30) (lv' := [some (vR 800), z, some (vI (nI k)), some (vI (nI v)), some (vI (nI t)), some (vI (nI u)), some (vI (nI q)), some (vI (nI j)), z8, z9, z10, z11]) (st' := [vI (758 + (2 * nI j)), vR 801]) rfl ?_
  refine gW_eq (lv' := [some (vR 800), z, some (vI (nI k)), some (vI (nI v)), some (vI (nI t)), some (vI (nI u)), some (vI (nI q)), some (vI (nI j)), z8, z9, z10, z11]) (st' := [vI (nI (758 + 2 * j)), vR 801]) rfl (by rw [(show (758 + (2 * nI j)) = nI (758 + 2 * j) from ((g_add (show (758 : Int32) = nI 758 from rfl) (g_mul (show (2 : Int32) = nI 2 from rfl) (rfl : nI j = nI j)))).trans (congrArg nI (by omega)))]) rfl ?_
  refine g_ald rfl (g_A (a := 801) (kd := 1) (n := 2407) rfl (by decide)) (by decide) (show nI (758 + 2 * j) = nI (758 + 2 * j) from (rfl : nI (758 + 2 * j) = nI (758 + 2 * j))) (by omega) (show _ = nI 16 from ((congrFun hS (758 + 2 * j))).trans hc) ?_
  refine g_pure 3 (i' := 34) (lv' := [some (vR 800), z, some (vI (nI k)), some (vI (nI v)), some (vI (nI t)), some (vI (nI u)), some (vI (nI q)), some (vI (nI j)), some (vI (nI 16)), z9, z10, z11]) (st' := [vI 10, vI (nI 16)]) rfl ?_
  refine gW_eq (lv' := [some (vR 800), z, some (vI (nI k)), some (vI (nI v)), some (vI (nI t)), some (vI (nI u)), some (vI (nI q)), some (vI (nI j)), some (vI 16), z9, z10, z11]) (st' := [vI 10, vI 16]) (by rw [(show (nI 16 : Int32) = 16 from rfl)]) (by rw [(show (nI 16 : Int32) = 16 from rfl)]) rfl ?_
  refine g_if2 (i' := 57) (P := 10 < 16) rfl rfl (g_gtN (show 16 = nI 16 from (show (16 : Int32) = nI 16 from rfl)) (show 10 = nI 10 from (show (10 : Int32) = nI 10 from rfl)) (by omega) (by omega)) (fun _ => ?_) (fun h2 => absurd (by omega) h2)
  refine g_pure 2 (i' := 59) (lv' := [some (vR 800), z, some (vI (nI k)), some (vI (nI v)), some (vI (nI t)), some (vI (nI u)), some (vI (nI q)), some (vI (nI j)), some (vI 16), z9, z10, z11]) (st' := [vI 14, vI 16]) rfl ?_
  refine g_if2 (i' := 75) (P := ¬ 16 = 14) rfl rfl (g_neN (show 16 = nI 16 from (show (16 : Int32) = nI 16 from rfl)) (show 14 = nI 14 from (show (14 : Int32) = nI 14 from rfl)) (by omega) (by omega)) (fun _ => ?_) (fun h3 => absurd (by omega) h3)
  refine g_pure 5 (i' := 80) (lv' := [some (vR 800), z, some (vI (nI k)), some (vI (nI v)), some (vI (nI t)), some (vI (nI u + -1)), some (vI (nI q)), some (vI (nI j)), some (vI 16), z9, z10, z11]) (st' := [vI 1, vI (nI u + -1), vR 807]) rfl ?_
  refine gW_eq (lv' := [some (vR 800), z, some (vI (nI k)), some (vI (nI v)), some (vI (nI t)), some (vI (nI (u - 1))), some (vI (nI q)), some (vI (nI j)), some (vI 16), z9, z10, z11]) (st' := [vI 1, vI (nI (u - 1)), vR 807]) (by rw [(show (nI u + -1) = nI (u - 1) from (g_dec (rfl : nI u = nI u) (by omega)))]) (by rw [(show (nI u + -1) = nI (u - 1) from (g_dec (rfl : nI u = nI u) (by omega)))]) rfl ?_
  refine g_pure 1 (i' := 81) (lv' := [some (vR 800), z, some (vI (nI k)), some (vI (nI v)), some (vI (nI t)), some (vI (nI (u - 1))), some (vI (nI q)), some (vI (nI j)), some (vI 16), z9, z10, z11]) (st' := [vI (nI (u - 1) - 1), vR 807]) rfl ?_
  refine gW_eq (lv' := [some (vR 800), z, some (vI (nI k)), some (vI (nI v)), some (vI (nI t)), some (vI (nI (u - 1))), some (vI (nI q)), some (vI (nI j)), some (vI 16), z9, z10, z11]) (st' := [vI (nI ((u - 1) - 1)), vR 807]) rfl (by rw [(show (nI (u - 1) - 1) = nI ((u - 1) - 1) from (g_sub (rfl : nI (u - 1) = nI (u - 1)) (show (1 : Int32) = nI 1 from rfl) (by omega)))]) rfl ?_
  refine g_ald rfl (g_A (a := 807) (kd := 1) (n := 400) rfl (by decide)) (by decide) (show nI ((u - 1) - 1) = nI ((u - 1) - 1) from (rfl : nI ((u - 1) - 1) = nI ((u - 1) - 1))) (by omega) (show _ = sg 807 ((u - 1) - 1) from rfl) ?_
  refine g_pure 4 (i' := 86) (lv' := [some (vR 800), z, some (vI (nI k)), some (vI (nI v)), some (vI (nI t)), some (vI (nI (u - 1))), some (vI (nI q)), some (vI (nI j)), some (vI 16), some (vI (sg 807 ((u - 1) - 1))), z10, z11]) (st' := [vI (nI (u - 1)), vR 807]) rfl ?_
  refine g_ald rfl (g_A (a := 807) (kd := 1) (n := 400) rfl (by decide)) (by decide) (show nI (u - 1) = nI (u - 1) from (rfl : nI (u - 1) = nI (u - 1))) (by omega) (show _ = sg 807 (u - 1) from rfl) ?_
  refine g_pure 3 (i' := 90) (lv' := [some (vR 800), z, some (vI (nI k)), some (vI (nI v)), some (vI (nI t)), some (vI (nI (u - 1))), some (vI (nI q)), some (vI (nI j)), some (vI 16), some (vI (sg 807 ((u - 1) - 1))), some (vI (sg 807 (u - 1))), z11]) (st' := [vI 12, vI 16]) rfl ?_
  refine g_if2 (i' := 98) (P := ¬ 16 = 12) rfl rfl (g_neN (show 16 = nI 16 from (show (16 : Int32) = nI 16 from rfl)) (show 12 = nI 12 from (show (12 : Int32) = nI 12 from rfl)) (by omega) (by omega)) (fun _ => ?_) (fun h4 => absurd (by omega) h4)
  refine g_pure 2 (i' := 100) (lv' := [some (vR 800), z, some (vI (nI k)), some (vI (nI v)), some (vI (nI t)), some (vI (nI (u - 1))), some (vI (nI q)), some (vI (nI j)), some (vI 16), some (vI (sg 807 ((u - 1) - 1))), some (vI (sg 807 (u - 1))), z11]) (st' := [vI 13, vI 16]) rfl ?_
  refine g_if2 (i' := 108) (P := ¬ 16 = 13) rfl rfl (g_neN (show 16 = nI 16 from (show (16 : Int32) = nI 16 from rfl)) (show 13 = nI 13 from (show (13 : Int32) = nI 13 from rfl)) (by omega) (by omega)) (fun _ => ?_) (fun h5 => absurd (by omega) h5)
  refine g_pure 2 (i' := 110) (lv' := [some (vR 800), z, some (vI (nI k)), some (vI (nI v)), some (vI (nI t)), some (vI (nI (u - 1))), some (vI (nI q)), some (vI (nI j)), some (vI 16), some (vI (sg 807 ((u - 1) - 1))), some (vI (sg 807 (u - 1))), z11]) (st' := [vI 15, vI 16]) rfl ?_
  refine g_if2 (i' := 120) (P := ¬ 16 = 15) rfl rfl (g_neN (show 16 = nI 16 from (show (16 : Int32) = nI 16 from rfl)) (show 15 = nI 15 from (show (15 : Int32) = nI 15 from rfl)) (by omega) (by omega)) (fun _ => ?_) (fun h6 => absurd (by omega) h6)
  refine g_pure 3 (i' := 123) (lv' := [some (vR 800), z, some (vI (nI k)), some (vI (nI v)), some (vI (nI t)), some (vI (nI (u - 1))), some (vI (nI q)), some (vI (nI j)), some (vI 16), some (vI (sg 807 ((u - 1) - 1))), some (vI (sg 807 (u - 1))), z11]) (st' := [vI (sg 807 ((u - 1) - 1) + sg 807 (u - 1))]) rfl ?_
  refine g_if1 (i' := 126) (P := (sg 807 ((u - 1) - 1) + sg 807 (u - 1)) ≤ 0) rfl rfl Iff.rfl (fun h7 => ?_) (fun h7 => ?_)
  · refine g_pure 9 (i' := 135) (lv' := [some (vR 800), z, some (vI (nI k)), some (vI (nI v)), some (vI (nI t)), some (vI (nI (u - 1))), some (vI (nI q)), some (vI (nI j)), some (vI 16), some (vI (sg 807 ((u - 1) - 1))), some (vI (sg 807 (u - 1))), some (vI 0)]) (st' := [vI 11, vI 16, vI (nI (u - 1) - 1), vR 807]) rfl ?_
    refine gW_eq (lv' := [some (vR 800), z, some (vI (nI k)), some (vI (nI v)), some (vI (nI t)), some (vI (nI (u - 1))), some (vI (nI q)), some (vI (nI j)), some (vI 16), some (vI (sg 807 ((u - 1) - 1))), some (vI (sg 807 (u - 1))), some (vI 0)]) (st' := [vI 11, vI 16, vI (nI ((u - 1) - 1)), vR 807]) rfl (by rw [(show (nI (u - 1) - 1) = nI ((u - 1) - 1) from (g_sub (rfl : nI (u - 1) = nI (u - 1)) (show (1 : Int32) = nI 1 from rfl) (by omega)))]) rfl ?_
    refine g_if2 (i' := 140) (P := ¬ 16 = 11) rfl rfl (g_neN (show 16 = nI 16 from (show (16 : Int32) = nI 16 from rfl)) (show 11 = nI 11 from (show (11 : Int32) = nI 11 from rfl)) (by omega) (by omega)) (fun _ => ?_) (fun h8 => absurd (by omega) h8)
    refine g_pure 1 (i' := 141) (lv' := [some (vR 800), z, some (vI (nI k)), some (vI (nI v)), some (vI (nI t)), some (vI (nI (u - 1))), some (vI (nI q)), some (vI (nI j)), some (vI 16), some (vI (sg 807 ((u - 1) - 1))), some (vI (sg 807 (u - 1))), some (vI 0)]) (st' := [vI 0, vI (nI ((u - 1) - 1)), vR 807]) rfl ?_
    refine g_if1 (i' := 144) (P := 0 = 0) rfl rfl (g_eqN (show 0 = nI 0 from (show (0 : Int32) = nI 0 from rfl)) (show 0 = nI 0 from (show (0 : Int32) = nI 0 from rfl)) (by omega) (by omega)) (fun _ => ?_) (fun h9 => absurd (by omega) h9)
    refine g_pure 1 (i' := 145) (lv' := [some (vR 800), z, some (vI (nI k)), some (vI (nI v)), some (vI (nI t)), some (vI (nI (u - 1))), some (vI (nI q)), some (vI (nI j)), some (vI 16), some (vI (sg 807 ((u - 1) - 1))), some (vI (sg 807 (u - 1))), some (vI 0)]) (st' := [vI 0, vI (nI ((u - 1) - 1)), vR 807]) rfl ?_
    refine g_ast rfl (g_A (a := 807) (kd := 1) (n := 400) rfl (by decide)) (by decide) (show nI ((u - 1) - 1) = nI ((u - 1) - 1) from (rfl : nI ((u - 1) - 1) = nI ((u - 1) - 1))) (by omega) ?_
    refine g_setv (fun s10 es10 => ?_)
    have hSs10 : s10 801 = S := by rw [es10, mu_ne (by decide), hS]
    refine g_pure 2 (i' := 15) (lv' := [some (vR 800), z, some (vI (nI k)), some (vI (nI v)), some (vI (nI t)), some (vI (nI (u - 1))), some (vI (nI q)), some (vI (nI j + 1)), some (vI 16), some (vI (sg 807 ((u - 1) - 1))), some (vI (sg 807 (u - 1))), some (vI 0)]) (st' := []) rfl ?_
    refine gW_eq (lv' := [some (vR 800), z, some (vI (nI k)), some (vI (nI v)), some (vI (nI t)), some (vI (nI (u - 1))), some (vI (nI q)), some (vI (nI (j + 1))), some (vI 16), some (vI (sg 807 ((u - 1) - 1))), some (vI (sg 807 (u - 1))), some (vI 0)]) (st' := []) (by rw [(show (nI j + 1) = nI (j + 1) from ((g_add (rfl : nI j = nI j) (show (1 : Int32) = nI 1 from rfl))).trans (congrArg nI (by omega)))]) rfl rfl ?_
    exact o1 h7 s10 es10
  · refine g_pure 10 (i' := 135) (lv' := [some (vR 800), z, some (vI (nI k)), some (vI (nI v)), some (vI (nI t)), some (vI (nI (u - 1))), some (vI (nI q)), some (vI (nI j)), some (vI 16), some (vI (sg 807 ((u - 1) - 1))), some (vI (sg 807 (u - 1))), some (vI 1)]) (st' := [vI 11, vI 16, vI (nI (u - 1) - 1), vR 807]) rfl ?_
    refine gW_eq (lv' := [some (vR 800), z, some (vI (nI k)), some (vI (nI v)), some (vI (nI t)), some (vI (nI (u - 1))), some (vI (nI q)), some (vI (nI j)), some (vI 16), some (vI (sg 807 ((u - 1) - 1))), some (vI (sg 807 (u - 1))), some (vI 1)]) (st' := [vI 11, vI 16, vI (nI ((u - 1) - 1)), vR 807]) rfl (by rw [(show (nI (u - 1) - 1) = nI ((u - 1) - 1) from (g_sub (rfl : nI (u - 1) = nI (u - 1)) (show (1 : Int32) = nI 1 from rfl) (by omega)))]) rfl ?_
    refine g_if2 (i' := 140) (P := ¬ 16 = 11) rfl rfl (g_neN (show 16 = nI 16 from (show (16 : Int32) = nI 16 from rfl)) (show 11 = nI 11 from (show (11 : Int32) = nI 11 from rfl)) (by omega) (by omega)) (fun _ => ?_) (fun h11 => absurd (by omega) h11)
    refine g_pure 1 (i' := 141) (lv' := [some (vR 800), z, some (vI (nI k)), some (vI (nI v)), some (vI (nI t)), some (vI (nI (u - 1))), some (vI (nI q)), some (vI (nI j)), some (vI 16), some (vI (sg 807 ((u - 1) - 1))), some (vI (sg 807 (u - 1))), some (vI 1)]) (st' := [vI 1, vI (nI ((u - 1) - 1)), vR 807]) rfl ?_
    refine g_if1 (i' := 144) (P := 1 = 0) rfl rfl (g_eqN (show 1 = nI 1 from (show (1 : Int32) = nI 1 from rfl)) (show 0 = nI 0 from (show (0 : Int32) = nI 0 from rfl)) (by omega) (by omega)) (fun h12 => absurd h12 (by omega)) (fun _ => ?_)
    refine g_pure 2 (i' := 145) (lv' := [some (vR 800), z, some (vI (nI k)), some (vI (nI v)), some (vI (nI t)), some (vI (nI (u - 1))), some (vI (nI q)), some (vI (nI j)), some (vI 16), some (vI (sg 807 ((u - 1) - 1))), some (vI (sg 807 (u - 1))), some (vI 1)]) (st' := [vI 1, vI (nI ((u - 1) - 1)), vR 807]) rfl ?_
    refine g_ast rfl (g_A (a := 807) (kd := 1) (n := 400) rfl (by decide)) (by decide) (show nI ((u - 1) - 1) = nI ((u - 1) - 1) from (rfl : nI ((u - 1) - 1) = nI ((u - 1) - 1))) (by omega) ?_
    refine g_setv (fun s13 es13 => ?_)
    have hSs13 : s13 801 = S := by rw [es13, mu_ne (by decide), hS]
    refine g_pure 2 (i' := 15) (lv' := [some (vR 800), z, some (vI (nI k)), some (vI (nI v)), some (vI (nI t)), some (vI (nI (u - 1))), some (vI (nI q)), some (vI (nI j + 1)), some (vI 16), some (vI (sg 807 ((u - 1) - 1))), some (vI (sg 807 (u - 1))), some (vI 1)]) (st' := []) rfl ?_
    refine gW_eq (lv' := [some (vR 800), z, some (vI (nI k)), some (vI (nI v)), some (vI (nI t)), some (vI (nI (u - 1))), some (vI (nI q)), some (vI (nI (j + 1))), some (vI 16), some (vI (sg 807 ((u - 1) - 1))), some (vI (sg 807 (u - 1))), some (vI 1)]) (st' := []) (by rw [(show (nI j + 1) = nI (j + 1) from ((g_add (rfl : nI j = nI j) (show (1 : Int32) = nI 1 from rfl))).trans (congrArg nI (by omega)))]) rfl rfl ?_
    exact o2 h7 s13 es13

theorem b_250_end {X : Nat × (Nat → Int32)} {d : Nat} {p : Nat → Nat} {sg : Mg} {Q : am_R → Prop} {B : Nat} {S : Nat → Int32} (hI : Inv B S) (hS : sg 801 = S) {z : Option AV} {k : Nat} {v : Nat} {t : Nat} {u : Nat} {q : Nat} {j : Nat} {z8 : Option AV} {z9 : Option AV} {z10 : Option AV} {z11 : Option AV} (u_k : k ≤ 7) (u_v : v ≤ 5) (u_t : t ≤ 200600) (u_u : u ≤ 40) (u_q : q ≤ 758) (u_j : j ≤ 400) (q1 : k < sn S 1) (q2 : v < sn S 0) (hj : S (q + 3) = nI j)
    (o1 : (u = 0) → Q (gRv p sg 1))
    (o2 : (¬ (u = 0)) → (¬ sg 807 0 = 1) → Q (gRv p sg 0))
    (o3 : (¬ (u = 0)) → (sg 807 0 = 1) → Q (gRv p sg 1)) :
    gW X (d + 4) k_250 15 [some (vR 800), z, some (vI (nI k)), some (vI (nI v)), some (vI (nI t)), some (vI (nI u)), some (vI (nI q)), some (vI (nI j)), z8, z9, z10, z11] [] p sg Q := by
  have b0 := hI.b0; have b1 := hI.b1; have b2 := hI.b2; have b3 := hI.b3; have b4 := hI.b4; have b5 := hI.b5; have b6 := hI.b6; have b7 := hI.b7; have b8 := hI.b8; have b9 := hI.b9; have b14 := hI.b14
  refine g_pure 6 (i' := 21) (lv' := [some (vR 800), z, some (vI (nI k)), some (vI (nI v)), some (vI (nI t)), some (vI (nI u)), some (vI (nI q)), some (vI (nI j)), z8, z9, z10, z11]) (st' := [vI (nI q + 3), vR 801, vI (nI j)]) rfl ?_
  refine gW_eq (lv' := [some (vR 800), z, some (vI (nI k)), some (vI (nI v)), some (vI (nI t)), some (vI (nI u)), some (vI (nI q)), some (vI (nI j)), z8, z9, z10, z11]) (st' := [vI (nI (q + 3)), vR 801, vI (nI j)]) rfl (by rw [(show (nI q + 3) = nI (q + 3) from ((g_add (rfl : nI q = nI q) (show (3 : Int32) = nI 3 from rfl))).trans (congrArg nI (by omega)))]) rfl ?_
  refine g_ald rfl (g_A (a := 801) (kd := 1) (n := 2407) rfl (by decide)) (by decide) (show nI (q + 3) = nI (q + 3) from (rfl : nI (q + 3) = nI (q + 3))) (by omega) (show _ = nI j from ((congrFun hS (q + 3))).trans hj) ?_
  refine g_if2 (i' := 148) (P := j ≤ j) rfl rfl (g_geN (show nI j = nI j from (rfl : nI j = nI j)) (show nI j = nI j from (rfl : nI j = nI j)) (by omega) (by omega)) (fun _ => ?_) (fun h1 => absurd (Nat.le_refl _) h1)
  refine g_pure 1 (i' := 149) (lv' := [some (vR 800), z, some (vI (nI k)), some (vI (nI v)), some (vI (nI t)), some (vI (nI u)), some (vI (nI q)), some (vI (nI j)), z8, z9, z10, z11]) (st' := [vI (nI u)]) rfl ?_
  refine g_if1 (i' := 156) (P := u = 0) rfl rfl (g_eqN (show nI u = nI u from (rfl : nI u = nI u)) (show 0 = nI 0 from (show (0 : Int32) = nI 0 from rfl)) (by omega) (by omega)) (fun h2 => ?_) (fun h2 => ?_)
  · refine g_pure 2 (i' := 159) (lv' := [some (vR 800), z, some (vI (nI k)), some (vI (nI v)), some (vI (nI t)), some (vI (nI u)), some (vI (nI q)), some (vI (nI j)), z8, z9, z10, z11]) (st' := [vI 1]) rfl ?_
    refine g_bret rfl g_nar1 ?_
    exact o1 h2
  · refine g_pure 3 (i' := 153) (lv' := [some (vR 800), z, some (vI (nI k)), some (vI (nI v)), some (vI (nI t)), some (vI (nI u)), some (vI (nI q)), some (vI (nI j)), z8, z9, z10, z11]) (st' := [vI 0, vR 807]) rfl ?_
    refine g_ald rfl (g_A (a := 807) (kd := 1) (n := 400) rfl (by decide)) (by decide) (show 0 = nI 0 from (show (0 : Int32) = nI 0 from rfl)) (by decide) (show _ = sg 807 0 from rfl) ?_
    refine g_pure 1 (i' := 155) (lv' := [some (vR 800), z, some (vI (nI k)), some (vI (nI v)), some (vI (nI t)), some (vI (nI u)), some (vI (nI q)), some (vI (nI j)), z8, z9, z10, z11]) (st' := [vI 1, vI (sg 807 0)]) rfl ?_
    refine g_if2 (i' := 158) (P := ¬ sg 807 0 = 1) rfl rfl Iff.rfl (fun h3 => ?_) (fun h3 => ?_)
    · refine g_pure 1 (i' := 159) (lv' := [some (vR 800), z, some (vI (nI k)), some (vI (nI v)), some (vI (nI t)), some (vI (nI u)), some (vI (nI q)), some (vI (nI j)), z8, z9, z10, z11]) (st' := [vI 0]) rfl ?_
      refine g_bret rfl g_nar0 ?_
      exact o2 h2 h3
    · have h3 := Classical.not_not.mp h3
      refine g_pure 2 (i' := 159) (lv' := [some (vR 800), z, some (vI (nI k)), some (vI (nI v)), some (vI (nI t)), some (vI (nI u)), some (vI (nI q)), some (vI (nI j)), z8, z9, z10, z11]) (st' := [vI 1]) rfl ?_
      refine g_bret rfl g_nar1 ?_
      exact o3 h2 h3
