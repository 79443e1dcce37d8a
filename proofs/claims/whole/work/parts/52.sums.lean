/-! THE REFERENCE: sums of lines, barred (made by wip/whole/gen52.py) -/
theorem b_250_0 {X : Nat × (Nat → Int32)} {d : Nat} {p : Nat → Nat} {sg : Mg} {Q : am_R → Prop} {B : Nat} {S : Nat → Int32} (hI : Inv B S) (hS : sg 801 = S) {n : Nat} {k : Nat} {v : Nat} {t : Nat} (u_n : n ≤ 11) (u_k : k ≤ 7) (u_v : v ≤ 5) (u_t : t ≤ 200600)
    (o1 : gW X (d + 4) k_250 15 [some (vR 800), some (vI (nI n)), some (vI (nI k)), some (vI (nI v)), some (vI (nI t)), some (vI 0), some (vI (nI (710 + 4 * n))), some (vI (S (712 + 4 * n))), none, none, none, none] [] p sg Q) :
    gW X (d + 4) k_250 0 [some (vR 800), some (vI (nI n)), some (vI (nI k)), some (vI (nI v)), some (vI (nI t)), none, none, none, none, none, none, none] [] p sg Q := by
  have b0 := hI.b0; have b1 := hI.b1; have b2 := hI.b2; have b3 := hI.b3; have b4 := hI.b4; have b5 := hI.b5; have b6 := hI.b6; have b7 := hI.b7; have b8 := hI.b8; have b9 := hI.b9; have b14 := hI.b14
  refine g_pure 13 (i' := 13) (lv' := [some (vR 800), some (vI (nI n)), some (vI (nI k)), some (vI (nI v)), some (vI (nI t)), some (vI 0), some (vI (710 + (4 * nI n))), none, none, none, none, none]) (st' := [vI ((710 + (4 * nI n)) + 2), vR 801]) rfl ?_
  refine gW_eq (lv' := [some (vR 800), some (vI (nI n)), some (vI (nI k)), some (vI (nI v)), some (vI (nI t)), some (vI 0), some (vI (nI (710 + 4 * n))), none, none, none, none, none]) (st' := [vI (nI (712 + 4 * n)), vR 801]) (by rw [(show (710 + (4 * nI n)) = nI (710 + 4 * n) from ((g_add (show (710 : Int32) = nI 710 from rfl) (g_mul (show (4 : Int32) = nI 4 from rfl) (rfl : nI n = nI n)))).trans (congrArg nI (by omega)))]) (by rw [(show ((710 + (4 * nI n)) + 2) = nI (712 + 4 * n) from ((g_add (g_add (show (710 : Int32) = nI 710 from rfl) (g_mul (show (4 : Int32) = nI 4 from rfl) (rfl : nI n = nI n))) (show (2 : Int32) = nI 2 from rfl))).trans (congrArg nI (by omega)))]) rfl ?_
  refine g_ald rfl (g_A (a := 801) (kd := 1) (n := 2407) rfl (by decide)) (by decide) (show nI (712 + 4 * n) = nI (712 + 4 * n) from (rfl : nI (712 + 4 * n) = nI (712 + 4 * n))) (by omega) (show _ = S (712 + 4 * n) from (congrFun hS (712 + 4 * n))) ?_
  refine g_pure 1 (i' := 15) (lv' := [some (vR 800), some (vI (nI n)), some (vI (nI k)), some (vI (nI v)), some (vI (nI t)), some (vI 0), some (vI (nI (710 + 4 * n))), some (vI (S (712 + 4 * n))), none, none, none, none]) (st' := []) rfl ?_
  exact o1

theorem s_250 {X : Nat × (Nat → Int32)} {d : Nat} {p : Nat → Nat} {sg : Mg} {B : Nat} {S : Nat → Int32} (hI : Inv B S) (hS : sg 801 = S) (hA : InvA S) (h7 : S 7 = 1) {n k v t : Nat} (hn : n < sn S 709) (hk : k < sn S 1) (hv : v < sn S 0) (ht : t ≤ 200600) : gF X (d + 5) 250 [vR 800, vI (nI n), vI (nI k), vI (nI v), vI (nI t)] p sg (fun r => ∃ s, (∃ f, s = va_up sg 807 f) ∧ r = gRv p s (if hln S (scf S k v t) n = true then 1 else 0)) := by
  have b0 := hI.b0; have b1 := hI.b1
  have h12 := (hA h7).1.2
  obtain ⟨o1, o2, o3, o4, o5, o6, o7, o8⟩ := (hA h7).2 n hn
  refine g_in (cd := k_250) (nL := 12) (rc := 13) rfl (g_A (a := 800) (kd := 0) (n := 12) rfl (by decide)) (g_c1 rfl) (b_250_0 hI hS (by omega) (by omega) (by omega) ht ?_)
  rw [show 712 + 4 * n = 710 + 4 * n + 2 by omega, o4]
  refine l_250 hI hS (sc := scf S k v t) (N := lnB S n - lnA S n) hk hv ht (by omega) (by omega) ?_ (scf_bit S k v t) (fun _ _ => rfl) o8 (fun f => ⟨_, ⟨f, rfl⟩, rfl⟩)
  rw [show lnA S n + (lnB S n - lnA S n) = lnB S n by omega]; exact o5

theorem b_249_0 {X : Nat × (Nat → Int32)} {d : Nat} {p : Nat → Nat} {sg : Mg} {Q : am_R → Prop} {B : Nat} {S : Nat → Int32} (hI : Inv B S) (hS : sg 801 = S) {c : Nat} {k : Nat} {v : Nat} {t : Nat} (u_c : c ≤ 2) (u_k : k ≤ 7) (u_v : v ≤ 5) (u_t : t ≤ 200600)
    (o1 : gW X (d + 5) k_249 4 [some (vR 800), some (vI (nI c)), some (vI (nI k)), some (vI (nI v)), some (vI (nI t)), some (vI 0), some (vI 0)] [] p sg Q) :
    gW X (d + 5) k_249 0 [some (vR 800), some (vI (nI c)), some (vI (nI k)), some (vI (nI v)), some (vI (nI t)), none, none] [] p sg Q := by
  have b0 := hI.b0; have b1 := hI.b1; have b2 := hI.b2; have b3 := hI.b3; have b4 := hI.b4; have b5 := hI.b5; have b6 := hI.b6; have b7 := hI.b7; have b8 := hI.b8; have b9 := hI.b9; have b14 := hI.b14
  refine g_pure 4 (i' := 4) (lv' := [some (vR 800), some (vI (nI c)), some (vI (nI k)), some (vI (nI v)), some (vI (nI t)), some (vI 0), some (vI 0)]) (st' := []) rfl ?_
  exact o1

theorem b_249_j {X : Nat × (Nat → Int32)} {d : Nat} {p : Nat → Nat} {sg : Mg} {Q : am_R → Prop} {B : Nat} {S : Nat → Int32} (hI : Inv B S) (hS : sg 801 = S) (hA : InvA S) (h7 : S 7 = 1) {c : Nat} {k : Nat} {v : Nat} {t : Nat} {u : Nat} {j : Nat} (u_c : c ≤ 2) (u_k : k ≤ 7) (u_v : v ≤ 5) (u_t : t ≤ 200600) (u_u : u ≤ 1200) (u_j : j ≤ 12) (q1 : k < sn S 1) (q2 : v < sn S 0) (q3 : j < sn S 709) (h709 : S 709 = nI (sn S 709)) (hki : S (710 + 4 * j) = nI (sn S (710 + 4 * j))) (u709 : sn S 709 ≤ 12)
    (o1 : (nI (sn S 709) ≤ nI j) → Q (gRv p sg (nI u)))
    (o2 : (¬ (nI (sn S 709) ≤ nI j)) → (¬ nI (sn S (710 + 4 * j)) = nI c) → gW X (d + 5) k_249 4 [some (vR 800), some (vI (nI c)), some (vI (nI k)), some (vI (nI v)), some (vI (nI t)), some (vI (nI u)), some (vI (nI (j + 1)))] [] p sg Q)
    (o3 : (¬ (nI (sn S 709) ≤ nI j)) → (nI (sn S (710 + 4 * j)) = nI c) → ∀ s4 : Mg, (∃ f, s4 = va_up sg 807 f) → (¬ (hln S (scf S k v t) j = true)) → gW X (d + 5) k_249 4 [some (vR 800), some (vI (nI c)), some (vI (nI k)), some (vI (nI v)), some (vI (nI t)), some (vI (nI u)), some (vI (nI (j + 1)))] [] p s4 Q)
    (o4 : (¬ (nI (sn S 709) ≤ nI j)) → (nI (sn S (710 + 4 * j)) = nI c) → ∀ s4 : Mg, (∃ f, s4 = va_up sg 807 f) → ((hln S (scf S k v t) j = true)) → gW X (d + 5) k_249 4 [some (vR 800), some (vI (nI c)), some (vI (nI k)), some (vI (nI v)), some (vI (nI t)), some (vI (nI u + S (711 + 4 * j))), some (vI (nI (j + 1)))] [] p s4 Q) :
    gW X (d + 5) k_249 4 [some (vR 800), some (vI (nI c)), some (vI (nI k)), some (vI (nI v)), some (vI (nI t)), some (vI (nI u)), some (vI (nI j))] [] p sg Q := by
  have b0 := hI.b0; have b1 := hI.b1; have b2 := hI.b2; have b3 := hI.b3; have b4 := hI.b4; have b5 := hI.b5; have b6 := hI.b6; have b7 := hI.b7; have b8 := hI.b8; have b9 := hI.b9; have b14 := hI.b14
  refine g_pure 3 (i' := 7) (lv' := [some (vR 800), some (vI (nI c)), some (vI (nI k)), some (vI (nI v)), some (vI (nI t)), some (vI (nI u)), some (vI (nI j))]) (st' := [vI 7, vR 801]) rfl ?_
  refine g_ald rfl (g_A (a := 801) (kd := 1) (n := 2407) rfl (by decide)) (by decide) (show 7 = nI 7 from (show (7 : Int32) = nI 7 from rfl)) (by decide) (show _ = nI 1 from ((congrFun hS 7)).trans h7) ?_
  refine g_pure 1 (i' := 9) (lv' := [some (vR 800), some (vI (nI c)), some (vI (nI k)), some (vI (nI v)), some (vI (nI t)), some (vI (nI u)), some (vI (nI j))]) (st' := [vI 1, vI (nI 1)]) rfl ?_
  refine gW_eq (lv' := [some (vR 800), some (vI (nI c)), some (vI (nI k)), some (vI (nI v)), some (vI (nI t)), some (vI (nI u)), some (vI (nI j))]) (st' := [vI 1, vI 1]) rfl (by rw [(show (nI 1 : Int32) = 1 from rfl)]) rfl ?_
  refine g_if2 (i' := 50) (P := ¬ 1 = 1) rfl rfl (g_neN (show 1 = nI 1 from (show (1 : Int32) = nI 1 from rfl)) (show 1 = nI 1 from (show (1 : Int32) = nI 1 from rfl)) (by omega) (by omega)) (fun h1 => absurd h1 (by omega)) (fun _ => ?_)
  refine g_pure 4 (i' := 14) (lv' := [some (vR 800), some (vI (nI c)), some (vI (nI k)), some (vI (nI v)), some (vI (nI t)), some (vI (nI u)), some (vI (nI j))]) (st' := [vI 709, vR 801, vI (nI j)]) rfl ?_
  refine g_ald rfl (g_A (a := 801) (kd := 1) (n := 2407) rfl (by decide)) (by decide) (show 709 = nI 709 from (show (709 : Int32) = nI 709 from rfl)) (by decide) (show _ = nI (sn S 709) from ((congrFun hS 709)).trans h709) ?_
  refine g_if2 (i' := 50) (P := nI (sn S 709) ≤ nI j) rfl rfl Iff.rfl (fun h2 => ?_) (fun h2 => ?_)
  · refine g_pure 1 (i' := 51) (lv' := [some (vR 800), some (vI (nI c)), some (vI (nI k)), some (vI (nI v)), some (vI (nI t)), some (vI (nI u)), some (vI (nI j))]) (st' := [vI (nI u)]) rfl ?_
    refine g_iret rfl ?_
    exact o1 h2
  · refine g_pure 8 (i' := 24) (lv' := [some (vR 800), some (vI (nI c)), some (vI (nI k)), some (vI (nI v)), some (vI (nI t)), some (vI (nI u)), some (vI (nI j))]) (st' := [vI (710 + (4 * nI j)), vR 801, vI (nI u)]) rfl ?_
    refine gW_eq (lv' := [some (vR 800), some (vI (nI c)), some (vI (nI k)), some (vI (nI v)), some (vI (nI t)), some (vI (nI u)), some (vI (nI j))]) (st' := [vI (nI (710 + 4 * j)), vR 801, vI (nI u)]) rfl (by rw [(show (710 + (4 * nI j)) = nI (710 + 4 * j) from ((g_add (show (710 : Int32) = nI 710 from rfl) (g_mul (show (4 : Int32) = nI 4 from rfl) (rfl : nI j = nI j)))).trans (congrArg nI (by omega)))]) rfl ?_
    refine g_ald rfl (g_A (a := 801) (kd := 1) (n := 2407) rfl (by decide)) (by decide) (show nI (710 + 4 * j) = nI (710 + 4 * j) from (rfl : nI (710 + 4 * j) = nI (710 + 4 * j))) (by omega) (show _ = nI (sn S (710 + 4 * j)) from ((congrFun hS (710 + 4 * j))).trans hki) ?_
    refine g_pure 1 (i' := 26) (lv' := [some (vR 800), some (vI (nI c)), some (vI (nI k)), some (vI (nI v)), some (vI (nI t)), some (vI (nI u)), some (vI (nI j))]) (st' := [vI (nI c), vI (nI (sn S (710 + 4 * j))), vI (nI u)]) rfl ?_
    refine g_if2 (i' := 45) (P := ¬ nI (sn S (710 + 4 * j)) = nI c) rfl rfl Iff.rfl (fun h3 => ?_) (fun h3 => ?_)
    · refine g_pure 5 (i' := 4) (lv' := [some (vR 800), some (vI (nI c)), some (vI (nI k)), some (vI (nI v)), some (vI (nI t)), some (vI (nI u + 0)), some (vI (nI j + 1))]) (st' := []) rfl ?_
      refine gW_eq (lv' := [some (vR 800), some (vI (nI c)), some (vI (nI k)), some (vI (nI v)), some (vI (nI t)), some (vI (nI u)), some (vI (nI (j + 1)))]) (st' := []) (by rw [(show (nI u + 0) = nI u from ((g_add (rfl : nI u = nI u) (show (0 : Int32) = nI 0 from rfl))).trans (congrArg nI (by omega))), (show (nI j + 1) = nI (j + 1) from ((g_add (rfl : nI j = nI j) (show (1 : Int32) = nI 1 from rfl))).trans (congrArg nI (by omega)))]) rfl rfl ?_
      exact o2 h2 h3
    · have h3 := Classical.not_not.mp h3
      refine g_pure 5 (i' := 32) (lv' := [some (vR 800), some (vI (nI c)), some (vI (nI k)), some (vI (nI v)), some (vI (nI t)), some (vI (nI u)), some (vI (nI j))]) (st' := [vI (nI t), vI (nI v), vI (nI k), vI (nI j), vR 800, vI (nI u)]) rfl ?_
      refine g_cV1E rfl (args := [vR 800, vI (nI j), vI (nI k), vI (nI v), vI (nI t)]) (rest := [vI (nI u)]) rfl rfl rfl (s_250 (d := d) hI hS hA h7 (by omega) (by omega) (by omega) (by omega)) (fun s4 es4 => ?_)
      have hSs4 : s4 801 = S := by obtain ⟨f9, h9⟩ := es4; rw [h9, va_up_ne _ _ (by decide)]; exact hS
      refine g_if1 (i' := 45) (P := ¬ (hln S (scf S k v t) j = true)) rfl rfl g_eqB (fun h5 => ?_) (fun h5 => ?_)
      · refine g_pure 5 (i' := 4) (lv' := [some (vR 800), some (vI (nI c)), some (vI (nI k)), some (vI (nI v)), some (vI (nI t)), some (vI (nI u + 0)), some (vI (nI j + 1))]) (st' := []) rfl ?_
        refine gW_eq (lv' := [some (vR 800), some (vI (nI c)), some (vI (nI k)), some (vI (nI v)), some (vI (nI t)), some (vI (nI u)), some (vI (nI (j + 1)))]) (st' := []) (by rw [(show (nI u + 0) = nI u from ((g_add (rfl : nI u = nI u) (show (0 : Int32) = nI 0 from rfl))).trans (congrArg nI (by omega))), (show (nI j + 1) = nI (j + 1) from ((g_add (rfl : nI j = nI j) (show (1 : Int32) = nI 1 from rfl))).trans (congrArg nI (by omega)))]) rfl rfl ?_
        exact o3 h2 h3 s4 es4 h5
      · have h5 := Classical.not_not.mp h5
        refine g_pure 9 (i' := 43) (lv' := [some (vR 800), some (vI (nI c)), some (vI (nI k)), some (vI (nI v)), some (vI (nI t)), some (vI (nI u)), some (vI (nI j))]) (st' := [vI ((710 + (4 * nI j)) + 1), vR 801, vI (nI u)]) rfl ?_
        refine gW_eq (lv' := [some (vR 800), some (vI (nI c)), some (vI (nI k)), some (vI (nI v)), some (vI (nI t)), some (vI (nI u)), some (vI (nI j))]) (st' := [vI (nI (711 + 4 * j)), vR 801, vI (nI u)]) rfl (by rw [(show ((710 + (4 * nI j)) + 1) = nI (711 + 4 * j) from ((g_add (g_add (show (710 : Int32) = nI 710 from rfl) (g_mul (show (4 : Int32) = nI 4 from rfl) (rfl : nI j = nI j))) (show (1 : Int32) = nI 1 from rfl))).trans (congrArg nI (by omega)))]) rfl ?_
        refine g_ald rfl (g_A (a := 801) (kd := 1) (n := 2407) rfl (by decide)) (by decide) (show nI (711 + 4 * j) = nI (711 + 4 * j) from (rfl : nI (711 + 4 * j) = nI (711 + 4 * j))) (by omega) (show _ = S (711 + 4 * j) from (congrFun hSs4 (711 + 4 * j))) ?_
        refine g_pure 5 (i' := 4) (lv' := [some (vR 800), some (vI (nI c)), some (vI (nI k)), some (vI (nI v)), some (vI (nI t)), some (vI (nI u + S (711 + 4 * j))), some (vI (nI j + 1))]) (st' := []) rfl ?_
        refine gW_eq (lv' := [some (vR 800), some (vI (nI c)), some (vI (nI k)), some (vI (nI v)), some (vI (nI t)), some (vI (nI u + S (711 + 4 * j))), some (vI (nI (j + 1)))]) (st' := []) (by rw [(show (nI j + 1) = nI (j + 1) from ((g_add (rfl : nI j = nI j) (show (1 : Int32) = nI 1 from rfl))).trans (congrArg nI (by omega)))]) rfl rfl ?_
        exact o4 h2 h3 s4 es4 h5

theorem b_249_e {X : Nat × (Nat → Int32)} {d : Nat} {p : Nat → Nat} {sg : Mg} {Q : am_R → Prop} {B : Nat} {S : Nat → Int32} (hI : Inv B S) (hS : sg 801 = S) {c : Nat} {k : Nat} {v : Nat} {t : Nat} {u : Nat} {j : Nat} (u_c : c ≤ 2) (u_k : k ≤ 7) (u_v : v ≤ 5) (u_t : t ≤ 200600) (u_u : u ≤ 1200) (u_j : j ≤ 12) (h7 : S 7 = 1) (h709 : S 709 = nI j)
    (o1 : Q (gRv p sg (nI u))) :
    gW X (d + 5) k_249 4 [some (vR 800), some (vI (nI c)), some (vI (nI k)), some (vI (nI v)), some (vI (nI t)), some (vI (nI u)), some (vI (nI j))] [] p sg Q := by
  have b0 := hI.b0; have b1 := hI.b1; have b2 := hI.b2; have b3 := hI.b3; have b4 := hI.b4; have b5 := hI.b5; have b6 := hI.b6; have b7 := hI.b7; have b8 := hI.b8; have b9 := hI.b9; have b14 := hI.b14
  refine g_pure 3 (i' := 7) (lv' := [some (vR 800), some (vI (nI c)), some (vI (nI k)), some (vI (nI v)), some (vI (nI t)), some (vI (nI u)), some (vI (nI j))]) (st' := [vI 7, vR 801]) rfl ?_
  refine g_ald rfl (g_A (a := 801) (kd := 1) (n := 2407) rfl (by decide)) (by decide) (show 7 = nI 7 from (show (7 : Int32) = nI 7 from rfl)) (by decide) (show _ = nI 1 from ((congrFun hS 7)).trans h7) ?_
  refine g_pure 1 (i' := 9) (lv' := [some (vR 800), some (vI (nI c)), some (vI (nI k)), some (vI (nI v)), some (vI (nI t)), some (vI (nI u)), some (vI (nI j))]) (st' := [vI 1, vI (nI 1)]) rfl ?_
  refine gW_eq (lv' := [some (vR 800), some (vI (nI c)), some (vI (nI k)), some (vI (nI v)), some (vI (nI t)), some (vI (nI u)), some (vI (nI j))]) (st' := [vI 1, vI 1]) rfl (by rw [(show (nI 1 : Int32) = 1 from rfl)]) rfl ?_
  refine g_if2 (i' := 50) (P := ¬ 1 = 1) rfl rfl (g_neN (show 1 = nI 1 from (show (1 : Int32) = nI 1 from rfl)) (show 1 = nI 1 from (show (1 : Int32) = nI 1 from rfl)) (by omega) (by omega)) (fun h1 => absurd h1 (by omega)) (fun _ => ?_)
  refine g_pure 4 (i' := 14) (lv' := [some (vR 800), some (vI (nI c)), some (vI (nI k)), some (vI (nI v)), some (vI (nI t)), some (vI (nI u)), some (vI (nI j))]) (st' := [vI 709, vR 801, vI (nI j)]) rfl ?_
  refine g_ald rfl (g_A (a := 801) (kd := 1) (n := 2407) rfl (by decide)) (by decide) (show 709 = nI 709 from (show (709 : Int32) = nI 709 from rfl)) (by decide) (show _ = nI j from ((congrFun hS 709)).trans h709) ?_
  refine g_if2 (i' := 50) (P := j ≤ j) rfl rfl (g_geN (show nI j = nI j from (rfl : nI j = nI j)) (show nI j = nI j from (rfl : nI j = nI j)) (by omega) (by omega)) (fun _ => ?_) (fun h2 => absurd (Nat.le_refl _) h2)
  refine g_pure 1 (i' := 51) (lv' := [some (vR 800), some (vI (nI c)), some (vI (nI k)), some (vI (nI v)), some (vI (nI t)), some (vI (nI u)), some (vI (nI j))]) (st' := [vI (nI u)]) rfl ?_
  refine g_iret rfl ?_
  exact o1

theorem b_249_x {X : Nat × (Nat → Int32)} {d : Nat} {p : Nat → Nat} {sg : Mg} {Q : am_R → Prop} {B : Nat} {S : Nat → Int32} (hI : Inv B S) (hS : sg 801 = S) {c : Nat} {k : Nat} {v : Nat} {t : Nat} (u_c : c ≤ 2) (u_k : k ≤ 7) (u_v : v ≤ 5) (u_t : t ≤ 200600) (h7 : ¬ S 7 = 1)
    (o1 : Q (gRv p sg 0)) :
    gW X (d + 5) k_249 4 [some (vR 800), some (vI (nI c)), some (vI (nI k)), some (vI (nI v)), some (vI (nI t)), some (vI 0), some (vI 0)] [] p sg Q := by
  have b0 := hI.b0; have b1 := hI.b1; have b2 := hI.b2; have b3 := hI.b3; have b4 := hI.b4; have b5 := hI.b5; have b6 := hI.b6; have b7 := hI.b7; have b8 := hI.b8; have b9 := hI.b9; have b14 := hI.b14
  refine g_pure 3 (i' := 7) (lv' := [some (vR 800), some (vI (nI c)), some (vI (nI k)), some (vI (nI v)), some (vI (nI t)), some (vI 0), some (vI 0)]) (st' := [vI 7, vR 801]) rfl ?_
  refine g_ald rfl (g_A (a := 801) (kd := 1) (n := 2407) rfl (by decide)) (by decide) (show 7 = nI 7 from (show (7 : Int32) = nI 7 from rfl)) (by decide) (show _ = S 7 from (congrFun hS 7)) ?_
  refine g_pure 1 (i' := 9) (lv' := [some (vR 800), some (vI (nI c)), some (vI (nI k)), some (vI (nI v)), some (vI (nI t)), some (vI 0), some (vI 0)]) (st' := [vI 1, vI (S 7)]) rfl ?_
  refine g_if2 (i' := 50) (P := ¬ S 7 = 1) rfl rfl Iff.rfl (fun _ => ?_) (fun h1 => absurd h7 h1)
  refine g_pure 1 (i' := 51) (lv' := [some (vR 800), some (vI (nI c)), some (vI (nI k)), some (vI (nI v)), some (vI (nI t)), some (vI 0), some (vI 0)]) (st' := [vI 0]) rfl ?_
  refine g_iret rfl ?_
  exact o1

theorem s_249 {X : Nat × (Nat → Int32)} {d : Nat} {p : Nat → Nat} {sg : Mg} {B : Nat} {S : Nat → Int32} (hI : Inv B S) (hS : sg 801 = S) (hA : InvA S) {c k v t : Nat} (hc : c ≤ 2) (hk : k < sn S 1) (hv : v < sn S 0) (ht : t ≤ 200600) : gF X (d + 6) 249 [vR 800, vI (nI c), vI (nI k), vI (nI v), vI (nI t)] p sg (fun r => ∃ s, (∃ f, s = va_up sg 807 f) ∧ r = gRv p s (nI (gsm S (scf S k v t) c (nln S)))) := by
  have b0 := hI.b0; have b1 := hI.b1
  refine g_in (cd := k_249) (nL := 7) (rc := 13) rfl (g_A (a := 800) (kd := 0) (n := 12) rfl (by decide)) (g_c1 rfl) (b_249_0 hI hS hc (by omega) (by omega) ht ?_)
  by_cases h7 : S 7 = 1
  · have h13 := (hA h7).1
    have hO := (hA h7).2
    have h12 := h13.2
    have e1 := nln1 h7
    have key := g_upI (P := fun j => ∀ f, gW X (d + 5) k_249 4 [some (vR 800), some (vI (nI c)), some (vI (nI k)), some (vI (nI v)), some (vI (nI t)), some (vI (nI (gsm S (scf S k v t) c j))), some (vI (nI j))] [] p (va_up sg 807 f) (fun r => ∃ s, (∃ f, s = va_up sg 807 f) ∧ r = gRv p s (nI (gsm S (scf S k v t) c (nln S))))) (I := fun _ => True) (n := sn S 709) (a := 0) (by omega) trivial ?_ ?_
    · have h := key (sg 807)
      rw [va_up_same] at h
      exact h
    · intro j _ hj _ ih f
      have hle := gsm_le (sc := scf S k v t) (kd := c) hO j (by omega)
      have ih := ih trivial
      simp only [gsm] at ih
      have k2 := ki_eq (hO j hj) hc
      have hS2 : (va_up sg 807 f) 801 = S := by rw [va_up_ne _ _ (by decide)]; exact hS
      refine b_249_j hI hS2 hA h7 hc (by omega) (by omega) ht (by omega) (by omega) hk hv hj h13.1 (hO j hj).1.1 (by omega) (fun h => ?_) (fun _ h => ?_) (fun _ h s3 hs h2 => ?_) (fun _ h s3 hs h2 => ?_)
      · have := (nI_leI (by omega) (by omega)).mp h
        omega
      · have h9 : ¬ lnP S (scf S k v t) c j = true := by
          unfold lnP
          rw [decide_eq_false (fun h9 => h (k2.mpr h9))]
          exact Bool.false_ne_true
        have := ih f
        rw [if_neg h9, Nat.add_zero] at this
        exact this
      · obtain ⟨f2, rfl⟩ := hs
        have h9 : ¬ lnP S (scf S k v t) c j = true := by
          unfold lnP
          rw [show hln S (scf S k v t) j = false by simpa using h2, Bool.and_false]
          exact Bool.false_ne_true
        have := ih f2
        rw [if_neg h9, Nat.add_zero] at this
        rw [va_up2]
        exact this
      · obtain ⟨f2, rfl⟩ := hs
        have h9 : lnP S (scf S k v t) c j = true := by
          unfold lnP
          rw [decide_eq_true (k2.mp h), h2]
          rfl
        have := ih f2
        rw [if_pos h9] at this
        rw [va_up2, show 711 + 4 * j = 710 + 4 * j + 1 by omega, (hO j hj).2.1.1, nI_add]
        exact this
    · intro _ f
      have hle := gsm_le (sc := scf S k v t) (kd := c) hO (sn S 709) (Nat.le_refl _)
      have hS2 : (va_up sg 807 f) 801 = S := by rw [va_up_ne _ _ (by decide)]; exact hS
      refine b_249_e hI hS2 hc (by omega) (by omega) ht (by omega) (by omega) h7 h13.1 ?_
      refine ⟨_, ⟨f, rfl⟩, ?_⟩
      rw [e1]
  · refine b_249_x hI hS hc (by omega) (by omega) ht h7 ?_
    refine ⟨sg, ⟨sg 807, va_up_same.symm⟩, ?_⟩
    rw [nln0 h7]
    rfl
theorem gsm_pos {S sc : Nat → Int32} {kd : Nat} (hkd : kd ≠ 2) {m : Nat} (h : ∀ n, n < m → okL S n) : ∀ n, n ≤ m → (0 < gsm S sc kd n ↔ anyb (lnP S sc kd) n = true)
  | 0, _ => by simp [gsm, anyb]
  | n + 1, hn => by
    have ih := gsm_pos (sc := sc) hkd h n (by omega)
    simp only [gsm, anyb, Bool.or_eq_true]
    rw [← ih]
    by_cases h9 : lnP S sc kd n = true
    · rw [if_pos h9]
      have h8 : sn S (710 + 4 * n) = kd := by
        unfold lnP at h9
        rw [Bool.and_eq_true] at h9
        exact of_decide_eq_true h9.1
      have h7 := (h n (by omega)).2.2.1 (by omega)
      constructor
      · intro _; exact Or.inr h9
      · intro _; omega
    · rw [if_neg h9]
      constructor
      · intro h; exact Or.inl (by omega)
      · rintro (h | h)
        · omega
        · exact absurd h h9
theorem brd_gsm {S sc : Nat → Int32} (hA : InvA S) {kd : Nat} (hkd : kd ≠ 2) : 0 < gsm S sc kd (nln S) ↔ brd S sc kd = true := by
  by_cases h7 : S 7 = 1
  · unfold brd
    rw [nln1 h7]
    exact gsm_pos hkd (hA h7).2 _ (Nat.le_refl _)
  · unfold brd
    rw [nln0 h7]
    simp [gsm, anyb]
theorem gsm_lt {S sc : Nat → Int32} (hA : InvA S) (kd : Nat) : gsm S sc kd (nln S) ≤ 1188 := by
  by_cases h7 : S 7 = 1
  · rw [nln1 h7]
    have := gsm_le (sc := sc) (kd := kd) (hA h7).2 _ (Nat.le_refl _)
    have := (hA h7).1.2
    omega
  · rw [nln0 h7]
    exact Nat.zero_le _

theorem b_254_0 {X : Nat × (Nat → Int32)} {d : Nat} {p : Nat → Nat} {sg : Mg} {Q : am_R → Prop} {B : Nat} {S : Nat → Int32} (hI : Inv B S) (hS : sg 801 = S) (hA : InvA S) {k : Nat} {v : Nat} {t : Nat} (u_k : k ≤ 7) (u_v : v ≤ 5) (u_t : t ≤ 200600) (q1 : k < sn S 1) (q2 : v < sn S 0)
    (o1 : ∀ s1 : Mg, (∃ f, s1 = va_up sg 807 f) → (gsm S (scf S k v t) 0 (nln S) ≤ 0) → Q (gRv p s1 0))
    (o2 : ∀ s1 : Mg, (∃ f, s1 = va_up sg 807 f) → (¬ (gsm S (scf S k v t) 0 (nln S) ≤ 0)) → Q (gRv p s1 1)) :
    gW X (d + 6) k_254 0 [some (vR 800), some (vI (nI k)), some (vI (nI v)), some (vI (nI t))] [] p sg Q := by
  have b0 := hI.b0; have b1 := hI.b1; have b2 := hI.b2; have b3 := hI.b3; have b4 := hI.b4; have b5 := hI.b5; have b6 := hI.b6; have b7 := hI.b7; have b8 := hI.b8; have b9 := hI.b9; have b14 := hI.b14
  refine g_pure 5 (i' := 5) (lv' := [some (vR 800), some (vI (nI k)), some (vI (nI v)), some (vI (nI t))]) (st' := [vI (nI t), vI (nI v), vI (nI k), vI 0, vR 800]) rfl ?_
  refine gW_eq (st' := [vI (nI t), vI (nI v), vI (nI k), vI (nI 0), vR 800]) rfl (by rw [(show (0 : Int32) = nI 0 from rfl)]) rfl ?_
  refine g_cV1E rfl (args := [vR 800, vI (nI 0), vI (nI k), vI (nI v), vI (nI t)]) (rest := []) rfl rfl rfl (s_249 (d := d) hI hS hA (by omega) (by omega) (by omega) (by omega)) (fun s1 es1 => ?_)
  have hSs1 : s1 801 = S := by obtain ⟨f9, h9⟩ := es1; rw [h9, va_up_ne _ _ (by decide)]; exact hS
  have t2 := gsm_lt hA (sc := scf S k v t) 0
  refine g_if1 (i' := 9) (P := gsm S (scf S k v t) 0 (nln S) ≤ 0) rfl rfl (g_leN (show nI (gsm S (scf S k v t) 0 (nln S)) = nI (gsm S (scf S k v t) 0 (nln S)) from (rfl : nI (gsm S (scf S k v t) 0 (nln S)) = nI (gsm S (scf S k v t) 0 (nln S)))) (show 0 = nI 0 from (show (0 : Int32) = nI 0 from rfl)) (by omega) (by omega)) (fun h3 => ?_) (fun h3 => ?_)
  · refine g_pure 1 (i' := 10) (lv' := [some (vR 800), some (vI (nI k)), some (vI (nI v)), some (vI (nI t))]) (st' := [vI 0]) rfl ?_
    refine g_bret rfl g_nar0 ?_
    exact o1 s1 es1 h3
  · refine g_pure 2 (i' := 10) (lv' := [some (vR 800), some (vI (nI k)), some (vI (nI v)), some (vI (nI t))]) (st' := [vI 1]) rfl ?_
    refine g_bret rfl g_nar1 ?_
    exact o2 s1 es1 h3

theorem s_254 {X : Nat × (Nat → Int32)} {d : Nat} {p : Nat → Nat} {sg : Mg} {B : Nat} {S : Nat → Int32} (hI : Inv B S) (hS : sg 801 = S) (hA : InvA S) {k v t : Nat} (hk : k < sn S 1) (hv : v < sn S 0) (ht : t ≤ 200600) : gF X (d + 7) 254 [vR 800, vI (nI k), vI (nI v), vI (nI t)] p sg (fun r => ∃ s, (∃ f, s = va_up sg 807 f) ∧ r = gRv p s (if brd S (scf S k v t) 0 = true then 1 else 0)) := by
  have b0 := hI.b0; have b1 := hI.b1
  refine g_in (cd := k_254) (nL := 4) (rc := 13) rfl (g_A (a := 800) (kd := 0) (n := 12) rfl (by decide)) (g_c1 rfl) (b_254_0 hI hS hA (by omega) (by omega) ht hk hv (fun s2 h2 h => ?_) (fun s2 h2 h => ?_))
  · refine ⟨s2, h2, ?_⟩
    rw [if_neg (fun h9 => by have := (brd_gsm hA (by decide)).mpr h9; omega)]
  · refine ⟨s2, h2, ?_⟩
    rw [if_pos ((brd_gsm hA (by decide)).mp (by omega))]
