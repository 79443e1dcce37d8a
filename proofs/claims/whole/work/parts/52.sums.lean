/-! THE REFERENCE: sums of lines, barred (made by wip/whole/gen52.py) -/
theorem b_250_0 {X : Nat × (Nat → Int32)} {d : Nat} {p : Nat → Nat} {sg : Mg} {Q : am_R → Prop} {B : Nat} {S : Nat → Int32} (hI : Inv B S) (hS : sg 801 = S) {n : Nat} {k : Nat} {v : Nat} {t : Nat} (u_n : n ≤ 11) (u_k : k ≤ 7) (u_v : v ≤ 5) (u_t : t ≤ 200600)
    (o1 : gW X (d + 4) k_250 15 [some (vR 800), some (vI (nI n)), some (vI (nI k)), some (vI (nI v)), some (vI (nI t)), some (vI 0), some (vI (nI (710 + 4 * n))), some (vI (S (712 + 4 * n))), none, none, none, none] [] p sg Q) :
    gW X (d + 4) k_250 0 [some (vR 800), some (vI (nI n)), some (vI (nI k)), some (vI (nI v)), some (vI (nI t)), none, none, none, none, none, none, none] [] p sg Q := by
  have b0 := hI.b0; have b1 := hI.b1; have b2 := hI.b2; have b3 := hI.b3; have b4 := hI.b4; have b5 := hI.b5; have b6 := hI.b6; have b7 := hI.b7; have b8 := hI.b8; have b9 := hI.b9; have b14 := hI.b14
  refine g_pure 13 (i' := 13) (lv' := [some (vR 800), some (vI (nI n)), some (vI (nI k)), some (vI (nI v)), some (vI (nI t)), some (vI 0), some (vI (710 + (4 * nI n))), none, none, none, none, none]) (st' := [vI ((710 + (4 * nI n)) + 2), vR 801]) rfl ?_
  refine gW_eq (lv' := [some (vR 800), some (vI (nI n)), some (vI (nI k)), some (vI (nI v)), some (vI (nI t)), some (vI 0), some (vI (nI (710 + 4 * n))), none, none, none, none, none]) (st' := [vI (nI (712 + 4 * n)), vR 801]) (by rw [(show (710 + (4 * nI n)) = nI (710 + 4 * n) from ((g_add (show (710 : Int32) = nI 710 from rfl) (g_mul (show (4 : Int32) = nI 4 from rfl) (rfl : nI n = nI n)))).trans (congrArg nI (by omega)))]) (by rw [(show ((710 + (4 * nI n)) + 2) = nI (712 + 4 * n) from ((g_add (g_add (show (710 : Int32) = nI 710 from rfl) (g_mul (show (4 : Int32) = nI 4 from rfl) (rfl : nI n = nI n))) (show (2 : Int32) = nI 2 from rfl))).trans (congrArg nI (by omega)))]) rfl ?_
  refine g_ald rfl (g_A (a := 801) (kd := 1) (n := 2407) rfl (by decide)) (by decide) (show nI (712 + 4 * n) = nI (712 + 4 * n) from (rfl : nI (712 + 4 * n) = nI (712 + 4 * n))) (by omega) (show _ = S (712 + 4 * n) from (congrFun hS (712 + 4 * n))) ?_
  refine g_pure 1 (i' := 15) (lv' := [some (vR 800), some (vI (nI n)), some (vI (nI k)), some (vI (nI v)), some (vI (nI t)), some (vI 0), some (vI (nI (710 + 4 * n))), some (vI (S (712 + 4 * n))), none, none, none, none]) (st' := []) rfl ?_
  exact o1

theorem s_250 {X : Nat × (Nat → Int32)} {d : Nat} {p : Nat → Nat} {sg : Mg} {B : Nat} {S : Nat → Int32} (hI : Inv B S) (hS : sg 801 = S) (hA : InvA S) (h7 : S 7 = 1) {n k v t : Nat} (hn : n < sn S 709) (hk : k < sn S 1) (hv : v < sn S 0) (ht : t ≤ 200600) : gF X (d + 5) 250 [vR 800, vI (nI n), vI (nI k), vI (nI v), vI (nI t)] p sg (fun r => ∃ s, (∃ f, s = va_up sg 807 f) ∧ r = gRv p s (if hln S (scf S k v t) n = true then 1 else 0)) := by
  have b0 := hI.b0; have b1 := hI.b1
  have h12 := (hA h7).1.2
  obtain ⟨o1, o2, o3, o4, o5, o6, o7, o8⟩ := (hA h7).2 n hn
  refine g_in (cd := k_250) (nL := 12) (rc := 13) rfl (g_A (a := 800) (kd := 0) (n := 12) rfl (by decide)) (g_c1 rfl) (b_250_0 hI hS (by omega) (by omega) (by omega) ht ?_)
  rw [show 712 + 4 * n = 710 + 4 * n + 2 by omega, o4]
  refine l_250 hI hS (sc := scf S k v t) (N := lnB S n - lnA S n) hk hv ht (by omega) (by omega) ?_ (scf_bit S k v t) (fun _ _ => rfl) o8 (fun f => ⟨_, ⟨f, rfl⟩, rfl⟩)
  rw [show lnA S n + (lnB S n - lnA S n) = lnB S n by omega]; exact o5

theorem b_249_0 {X : Nat × (Nat → Int32)} {d : Nat} {p : Nat → Nat} {sg : Mg} {Q : am_R → Prop} {B : Nat} {S : Nat → Int32} (hI : Inv B S) (hS : sg 801 = S) {c : Nat} {k : Nat} {v : Nat} {t : Nat} (u_c : c ≤ 2) (u_k : k ≤ 7) (u_v : v ≤ 5) (u_t : t ≤ 200600)
    (o1 : gW X (d + 5) k_249 4 [some (vR 800), some (vI (nI c)), some (vI (nI k)), some (vI (nI v)), some (vI (nI t)), some (vI 0), some (vI 0)] [] p sg Q) :
    gW X (d + 5) k_249 0 [some (vR 800), some (vI (nI c)), some (vI (nI k)), some (vI (nI v)), some (vI (nI t)), none, none] [] p sg Q := by
  have b0 := hI.b0; have b1 := hI.b1; have b2 := hI.b2; have b3 := hI.b3; have b4 := hI.b4; have b5 := hI.b5; have b6 := hI.b6; have b7 := hI.b7; have b8 := hI.b8; have b9 := hI.b9; have b14 := hI.b14
  refine g_pure 4 (i' := 4) (lv' := [some (vR 800), some (vI (nI c)), some (vI (nI k)), some (vI (nI v)), some (vI (nI t)), some (vI 0), some (vI 0)]) (st' := []) rfl ?_
  exact o1

theorem b_249_j {X : Nat × (Nat → Int32)} {d : Nat} {p : Nat → Nat} {sg : Mg} {Q : am_R → Prop} {B : Nat} {S : Nat → Int32} (hI : Inv B S) (hS : sg 801 = S) (hA : InvA S) (h7 : S 7 = 1) {c : Nat} {k : Nat} {v : Nat} {t : Nat} {u : Nat} {j : Nat} (u_c : c ≤ 2) (u_k : k ≤ 7) (u_v : v ≤ 5) (u_t : t ≤ 200600) (u_u : u ≤ 1200) (u_j : j ≤ 12) (q1 : k < sn S 1) (q2 : v < sn S 0) (q3 : j < sn S 709) (h709 : S 709 = nI (sn S 709)) (hki : S (710 + 4 * j) = nI (sn S (710 + 4 * j))) (u709 : sn S 709 ≤ 12)
    (o1 : (nI (sn S 709) ≤ nI j) → Q (gRv p sg (nI u)))
    (o2 : (¬ (nI (sn S 709) ≤ nI j)) → (¬ nI (sn S (710 + 4 * j)) = nI c) → gW X (d + 5) k_249 4 [some (vR 800), some (vI (nI c)), some (vI (nI k)), some (vI (nI v)), some (vI (nI t)), some (vI (nI u)), some (vI (nI (j + 1)))] [] p sg Q)
    (o3 : (¬ (nI (sn S 709) ≤ nI j)) → (nI (sn S (710 + 4 * j)) = nI c) → ∀ s4 : Mg, (∃ f, s4 = va_up sg 807 f) → (¬ (hln S (scf S k v t) j = true)) → gW X (d + 5) k_249 4 [some (vR 800), some (vI (nI c)), some (vI (nI k)), some (vI (nI v)), some (vI (nI t)), some (vI (nI u)), some (vI (nI (j + 1)))] [] p s4 Q)
    (o4 : (¬ (nI (sn S 709) ≤ nI j)) → (nI (sn S (710 + 4 * j)) = nI c) → ∀ s4 : Mg, (∃ f, s4 = va_up sg 807 f) → ((hln S (scf S k v t) j = true)) → gW X (d + 5) k_249 4 [some (vR 800), some (vI (nI c)), some (vI (nI k)), some (vI (nI v)), some (vI (nI t)), some (vI (nI u + S (711 + 4 * j))), some (vI (nI (j + 1)))] [] p s4 Q) :
    gW X (d + 5) k_249 4 [some (vR 800), some (vI (nI c)), some (vI (nI k)), some (vI (nI v)), some (vI (nI t)), some (vI (nI u)), some (vI (nI j))] [] p sg Q := by
  have b0 := hI.b0; have b1 := hI.b1; have b2 := hI.b2; have b3 := hI.b3; have b4 := hI.b4; have b5 := hI.b5; have b6 := hI.b6; have b7 := hI.b7; have b8 := hI.b8; have b9 := hI.b9; have b14 := hI.b14
  refine g_pure 3 (i' := 7) (lv' := [some (vR 800), some (vI (nI c)), some (vI (nI k)), some (vI (nI v)), some (vI (nI t)), some (vI (nI u)), some (vI (nI j))]) (st' := [vI 7, vR 801]) rfl ?_
  refine g_ald rfl (g_A (a := 801) (kd := 1) (n := 2407) rfl (by decide)) (by decide) (show 7 = nI 7 from (show (7 : Int32) = nI 7 from rfl)) (by decide) (show _ = nI 1 from ((congrFun hS 7)).trans h7) ?_
  refine g_pure 1 (i' := 9) (lv' := [some (vR 800), some (vI (nI c)), some (vI (nI k)), some (vI (nI v)), some (vI (nI t)), some (vI (nI u)), some (vI (nI j))]) (st' := [vI 1, vI (nI 1)]) rfl ?_
  refine gW_eq (lv' := [some (vR 800), some (vI (nI c)), some (vI (nI k)), some (vI (nI v)), some (vI (nI t)), some (vI (nI u)), some (vI (nI j))]) (st' := [vI 1, vI 1]) rfl (by rw [(show (nI 1 : Int32) = 1 from rfl)]) rfl ?_
  refine g_if2 (i' := 50) (P := ¬ 1 = 1) rfl rfl (g_neN (show 1 = nI 1 from (show (1 : Int32) = nI 1 from rfl)) (show 1 = nI 1 from (show (1 : Int32) = nI 1 from rfl)) (by omega) (by omega)) (fun h1 => absurd h1 (by omega)) (fun _ => ?_)
  refine g_pure 4 (i' := 14) (lv' := [some (vR 800), some (vI (nI c)), some (vI (nI k)), some (vI (nI v)), some (vI (nI t)), some (vI (nI u)), some (vI (nI j))]) (st' := [vI 709, vR 801, vI (nI j)]) rfl ?_
  refine g_ald rfl (g_A (a := 801) (kd := 1) (n := 2407) rfl (by decide)) (by decide) (show 709 = nI 709 from (show (709 : Int32) = nI 709 from rfl)) (by decide) (show _ = nI (sn S 709) from ((congrFun hS 709)).trans h709) ?_
  refine g_if2 (i' := 50) (P := nI (sn S 709) ≤ nI j) rfl rfl Iff.rfl (fun h2 => ?_) (fun h2 => ?_)
  · refine g_pure 1 (i' := 51) (lv' := [some (vR 800), some (vI (nI c)), some (vI (nI k)), some (vI (nI v)), some (vI (nI t)), some (vI (nI u)), some (vI (nI j))]) (st' := [vI (nI u)]) rfl ?_
    refine g_iret rfl ?_
    exact o1 h2
  · refine g_pure 8 (i' := 24) (lv' := [some (vR 800), some (vI (nI c)), some (vI (nI k)), some (vI (nI v)), some (vI (nI t)), some (vI (nI u)), some (vI (nI j))]) (st' := [vI (710 + (4 * nI j)), vR 801, vI (nI u)]) rfl ?_
    refine gW_eq (lv' := [some (vR 800), some (vI (nI c)), some (vI (nI k)), some (vI (nI v)), some (vI (nI t)), some (vI (nI u)), some (vI (nI j))]) (st' := [vI (nI (710 + 4 * j)), vR 801, vI (nI u)]) rfl (by rw [(show (710 + (4 * nI j)) = nI (710 + 4 * j) from ((g_add (show (710 : Int32) = nI 710 from rfl) (g_mul (show (4 : Int32) = nI 4 from rfl) (rfl : nI j = nI j)))).trans (congrArg nI (by omega)))]) rfl ?_
    refine g_ald rfl (g_A (a := 801) (kd := 1) (n := 2407) rfl (by decide)) (by decide) (show nI (710 + 4 * j) = nI (710 + 4 * j) from (rfl : nI (710 + 4 * j) = nI (710 + 4 * j))) (by omega) (show _ = nI (sn S (710 + 4 * j)) from ((congrFun hS (710 + 4 * j))).trans hki) ?_
    refine g_pure 1 (i' := 26) (lv' := [some (vR 800), some (vI (nI c)), some (vI (nI k)), some (vI (nI v)), some (vI (nI t)), some (vI (nI u)), some (vI (nI j))]) (st' := [vI (nI c), vI (nI (sn S (710 + 4 * j))), vI (nI u)]) rfl ?_
    refine g_if2 (i' := 45) (P := ¬ nI (sn S (710 + 4 * j)) = nI c) rfl rfl Iff.rfl (fun h3 => ?_) (fun h3 => ?_)
    · refine g_pure 5 (i' := 4) (lv' := [some (vR 800), some (vI (nI c)), some (vI (nI k)), some (vI (nI v)), some (vI (nI t)), some (vI (nI u + 0)), some (vI (nI j + 1))]) (st' := []) rfl ?_
      refine gW_eq (lv' := [some (vR 800), some (vI (nI c)), some (vI (nI k)), some (vI (nI v)), some (vI (nI t)), some (vI (nI u)), some (vI (nI (j + 1)))]) (st' := []) (by rw [(show (nI u + 0) = nI u from ((g_add (rfl : nI u = nI u) (show (0 : Int32) = nI 0 from rfl))).trans (congrArg nI (by omega))), (show (nI j + 1) = nI (j + 1) from ((g_add (rfl : nI j = nI j) (show (1 : Int32) = nI 1 from rfl))).trans (congrArg nI (by omega)))]) rfl rfl ?_
      exact o2 h2 h3
    · have h3 := Classical.not_not.mp h3
      refine g_pure 5 (i' := 32) (lv' := [some (vR 800), some (vI (nI c)), some (vI (nI k)), some (vI (nI v)), some (vI (nI t)), some (vI (nI u)), some (vI (nI j))]) (st' := [vI (nI t), vI (nI v), vI (nI k), vI (nI j), vR 800, vI (nI u)]) rfl ?_
      refine g_cV1E rfl (args := [vR 800, vI (nI j), vI (nI k), vI (nI v), vI (nI t)]) (rest := [vI (nI u)]) rfl rfl rfl (s_250 (d := d) hI hS hA h7 (by omega) (by omega) (by omega) (by omega)) (fun s4 es4 => ?_)
      have hSs4 : s4 801 = S := by obtain ⟨f9, h9⟩ := es4; rw [h9, va_up_ne _ _ (by decide)]; exact hS
      refine g_if1 (i' := 45) (P := ¬ (hln S (scf S k v t) j = true)) rfl rfl g_eqB (fun h5 => ?_) (fun h5 => ?_)
      · refine g_pure 5 (i' := 4) (lv' := [some (vR 800), some (vI (nI c)), some (vI (nI k)), some (vI (nI v)), some (vI (nI t)), some (vI (nI u + 0)), some (vI (nI j + 1))]) (st' := []) rfl ?_
        refine gW_eq (lv' := [some (vR 800), some (vI (nI c)), some (vI (nI k)), some (vI (nI v)), some (vI (nI t)), some (vI (nI u)), some (vI (nI (j + 1)))]) (st' := []) (by rw [(show (nI u + 0) = nI u from ((g_add (rfl : nI u = nI u) (show (0 : Int32) = nI 0 from rfl))).trans (congrArg nI (by omega))), (show (nI j + 1) = nI (j + 1) from ((g_add (rfl : nI j = nI j) (show (1 : Int32) = nI 1 from rfl))).trans (congrArg nI (by omega)))]) rfl rfl ?_
        exact o3 h2 h3 s4 es4 h5
      · have h5 := Classical.not_not.mp h5
        refine g_pure 9 (i' := 43) (lv' := [some (vR 800), some (vI (nI c)), some (vI (nI k)), some (vI (nI v)), some (vI (nI t)), some (vI (nI u)), some (vI (nI j))]) (st' := [vI ((710 + (4 * nI j)) + 1), vR 801, vI (nI u)]) rfl ?_
        refine gW_eq (lv' := [some (vR 800), some (vI (nI c)), some (vI (nI k)), some (vI (nI v)), some (vI (nI t)), some (vI (nI u)), some (vI (nI j))]) (st' := [vI (nI (711 + 4 * j)), vR 801, vI (nI u)]) rfl (by rw [(show ((710 + (4 * nI j)) + 1) = nI (711 + 4 * j) from ((g_add (g_add (show (710 : Int32) = nI 710 from rfl) (g_mul (show (4 : Int32) = nI 4 from rfl) (rfl : nI j = nI j))) (show (1 : Int32) = nI 1 from rfl))).trans (congrArg nI (by omega)))]) rfl ?_
        refine g_ald rfl (g_A (a := 801) (kd := 1) (n := 2407) rfl (by decide)) (by decide) (show nI (711 + 4 * j) = nI (711 + 4 * j) from (rfl : nI (711 + 4 * j) = nI (711 + 4 * j))) (by omega) (show _ = S (711 + 4 * j) from (congrFun hSs4 (711 + 4 * j))) ?_
        refine g_pure 5 (i' := 4) (lv' := [some (vR 800), some (vI (nI c)), some (vI (nI k)), some (vI (nI v)), some (vI (nI t)), some (vI (nI u + S (711 + 4 * j))), some (vI (nI j + 1))]) (st' := []) rfl ?_
        refine gW_eq (lv' := [some (vR 800), some (vI (nI c)), some (vI (nI k)), some (vI (nI v)), some (vI (nI t)), some (vI (nI u + S (711 + 4 * j))), some (vI (nI (j + 1)))]) (st' := []) (by rw [(show (nI j + 1) = nI (j + 1) from ((g_add (rfl : nI j = nI j) (show (1 : Int32) = nI 1 from rfl))).trans (congrArg nI (by omega)))]) rfl rfl ?_
        exact o4 h2 h3 s4 es4 h5

theorem b_249_e {X : Nat × (Nat → Int32)} {d : Nat} {p : Nat → Nat} {sg : Mg} {Q : am_R → Prop} {B : Nat} {S : Nat → Int32} (hI : Inv B S) (hS : sg 801 = S) {c : Nat} {k : Nat} {v : Nat} {t : Nat} {u : Nat} {j : Nat} (u_c : c ≤ 2) (u_k : k ≤ 7) (u_v : v ≤ 5) (u_t : t ≤ 200600) (u_u : u ≤ 1200) (u_j : j ≤ 12) (h7 : S 7 = 1) (h709 : S 709 = nI j)
    (o1 : Q (gRv p sg (nI u))) :
    gW X (d + 5) k_249 4 [some (vR 800), some (vI (nI c)), some (vI (nI k)), some (vI (nI v)), some (vI (nI t)), some (vI (nI u)), some (vI (nI j))] [] p sg Q := by
  have b0 := hI.b0; have b1 := hI.b1; have b2 := hI.b2; have b3 := hI.b3; have b4 := hI.b4; have b5 := hI.b5; have b6 := hI.b6; have b7 := hI.b7; have b8 := hI.b8; have b9 := hI.b9; have b14 := hI.b14
  refine g_pure 3 (i' := 7) (lv' := [some (vR 800), some (vI (nI c)), some (vI (nI k)), some (vI (nI v)), some (vI (nI t)), some (vI (nI u)), some (vI (nI j))]) (st' := [vI 7, vR 801]) rfl ?_
  refine g_ald rfl (g_A (a := 801) (kd := 1) (n := 2407) rfl (by decide)) (by decide) (show 7 = nI 7 from (show (7 : Int32) = nI 7 from rfl)) (by decide) (show _ = nI 1 from ((congrFun hS 7)).trans h7) ?_
  refine g_pure 1 (i' := 9) (lv' := [some (vR 800), some (vI (nI c)), some (vI (nI k)), some (vI (nI v)), some (vI (nI t)), some (vI (nI u)), some (vI (nI j))]) (st' := [vI 1, vI (nI 1)]) rfl ?_
  refine gW_eq (lv' := [some (vR 800), some (vI (nI c)), some (vI (nI k)), some (vI (nI v)), some (vI (nI t)), some (vI (nI u)), some (vI (nI j))]) (st' := [vI 1, vI 1]) rfl (by rw [(show (nI 1 : Int32) = 1 from rfl)]) rfl ?_
  refine g_if2 (i' := 50) (P := ¬ 1 = 1) rfl rfl (g_neN (show 1 = nI 1 from (show (1 : Int32) = nI 1 from rfl)) (show 1 = nI 1 from (show (1 : Int32) = nI 1 from rfl)) (by omega) (by omega)) (fun h1 => absurd h1 (by omega)) (fun _ => ?_)
  refine g_pure 4 (i' := 14) (lv' := [some (vR 800), some (vI (nI c)), some (vI (nI k)), some (vI (nI v)), some (vI (nI t)), some (vI (nI u)), some (vI (nI j))]) (st' := [vI 709, vR 801, vI (nI j)]) rfl ?_
  refine g_ald rfl (g_A (a := 801) (kd := 1) (n := 2407) rfl (by decide)) (by decide) (show 709 = nI 709 from (show (709 : Int32) = nI 709 from rfl)) (by decide) (show _ = nI j from ((congrFun hS 709)).trans h709) ?_
  refine g_if2 (i' := 50) (P := j ≤ j) rfl rfl (g_geN (show nI j = nI j from (rfl : nI j = nI j)) (show nI j = nI j from (rfl : nI j = nI j)) (by omega) (by omega)) (fun _ => ?_) (fun h2 => absurd (Nat.le_refl _) h2)
  refine g_pure 1 (i' := 51) (lv' := [some (vR 800), some (vI (nI c)), some (vI (nI k)), some (vI (nI v)), some (vI (nI t)), some (vI (nI u)), some (vI (nI j))]) (st' := [vI (nI u)]) rfl ?_
  refine g_iret rfl ?_
  exact o1

theorem b_249_x {X : Nat × (Nat → Int32)} {d : Nat} {p : Nat → Nat} {sg : Mg} {Q : am_R → Prop} {B : Nat} {S : Nat → Int32} (hI : Inv B S) (hS : sg 801 = S) {c : Nat} {k : Nat} {v : Nat} {t : Nat} (u_c : c ≤ 2) (u_k : k ≤ 7) (u_v : v ≤ 5) (u_t : t ≤ 200600) (h7 : ¬ S 7 = 1)
    (o1 : Q (gRv p sg 0)) :
    gW X (d + 5) k_249 4 [some (vR 800), some (vI (nI c)), some (vI (nI k)), some (vI (nI v)), some (vI (nI t)), some (vI 0), some (vI 0)] [] p sg Q := by
  have b0 := hI.b0; have b1 := hI.b1; have b2 := hI.b2; have b3 := hI.b3; have b4 := hI.b4; have b5 := hI.b5; have b6 := hI.b6; have b7 := hI.b7; have b8 := hI.b8; have b9 := hI.b9; have b14 := hI.b14
  refine g_pure 3 (i' := 7) (lv' := [some (vR 800), some (vI (nI c)), some (vI (nI k)), some (vI (nI v)), some (vI (nI t)), some (vI 0), some (vI 0)]) (st' := [vI 7, vR 801]) rfl ?_
  refine g_ald rfl (g_A (a := 801) (kd := 1) (n := 2407) rfl (by decide)) (by decide) (show 7 = nI 7 from (show (7 : Int32) = nI 7 from rfl)) (by decide) (show _ = S 7 from (congrFun hS 7)) ?_
  refine g_pure 1 (i' := 9) (lv' := [some (vR 800), some (vI (nI c)), some (vI (nI k)), some (vI (nI v)), some (vI (nI t)), some (vI 0), some (vI 0)]) (st' := [vI 1, vI (S 7)]) rfl ?_
  refine g_if2 (i' := 50) (P := ¬ S 7 = 1) rfl rfl Iff.rfl (fun _ => ?_) (fun h1 => absurd h7 h1)
  refine g_pure 1 (i' := 51) (lv' := [some (vR 800), some (vI (nI c)), some (vI (nI k)), some (vI (nI v)), some (vI (nI t)), some (vI 0), some (vI 0)]) (st' := [vI 0]) rfl ?_
  refine g_iret rfl ?_
  exact o1
