/-! THE REFERENCE: one lives the day (made by wip/whole/gen58.py) -/
theorem b_267_0 {X : Nat × (Nat → Int32)} {d : Nat} {p : Nat → Nat} {sg : Mg} {Q : am_R → Prop} {B : Nat} {S : Nat → Int32} (hI : Inv B S) (hS : sg 801 = S) {v : Nat} (hA : InvA S) {k : Nat} (u_k : k ≤ 7) (q1 : k < sn S 1) (q2 : v < sn S 0) (hv : S (113 + 6 * k) = nI v)
    (o1 : ∀ s2 : Mg, (∃ f, s2 = va_up sg 807 f) → ∀ s8 : Mg, s8 = mu s2 801 (113 + 6 * k + 3) (nI (sn S (113 + 6 * k + 3) + min (gsm S (scf S k v (sn S 8)) 2 (nln S)) (9999 - sn S (113 + 6 * k + 3)))) → ∀ s9 : Mg, s9 = mu s8 801 12 (S 12 + nI (min (gsm S (scf S k v (sn S 8)) 2 (nln S)) (9999 - sn S (113 + 6 * k + 3)))) → ∀ s10 : Mg, s10 = mu s9 801 13 (S 13 + (nI (gsm S (scf S k v (sn S 8)) 2 (nln S)) - nI (min (gsm S (scf S k v (sn S 8)) 2 (nln S)) (9999 - sn S (113 + 6 * k + 3))))) → s10 801 = (upd (upd (upd S (113 + 6 * k + 3) (nI (sn S (113 + 6 * k + 3) + min (gsm S (scf S k v (sn S 8)) 2 (nln S)) (9999 - sn S (113 + 6 * k + 3))))) 12 (S 12 + nI (min (gsm S (scf S k v (sn S 8)) 2 (nln S)) (9999 - sn S (113 + 6 * k + 3))))) 13 (S 13 + (nI (gsm S (scf S k v (sn S 8)) 2 (nln S)) - nI (min (gsm S (scf S k v (sn S 8)) 2 (nln S)) (9999 - sn S (113 + 6 * k + 3)))))) → gW X (d + 6) k_267 54 [some (vR 800), some (vI (nI k)), some (vI (nI v)), some (vI (nI (gsm S (scf S k v (sn S 8)) 2 (nln S)))), some (vI (nI (min (gsm S (scf S k v (sn S 8)) 2 (nln S)) (9999 - sn S (113 + 6 * k + 3))))), none, none, none] [] p s10 Q) :
    gW X (d + 6) k_267 0 [some (vR 800), some (vI (nI k)), none, none, none, none, none, none] [] p sg Q := by
  have b0 := hI.b0; have b1 := hI.b1; have b2 := hI.b2; have b3 := hI.b3; have b4 := hI.b4; have b5 := hI.b5; have b6 := hI.b6; have b7 := hI.b7; have b8 := hI.b8; have b9 := hI.b9; have b14 := hI.b14
  refine g_pure 3 (i' := 3) (lv' := [some (vR 800), some (vI (nI k)), none, none, none, none, none, none]) (st' := [vI 0, vI (nI k), vR 800]) rfl ?_
  refine gW_eq (st' := [vI (nI 0), vI (nI k), vR 800]) rfl (by rw [(show (0 : Int32) = nI 0 from rfl)]) rfl ?_
  refine g_cV1 rfl (args := [vR 800, vI (nI k), vI (nI 0)]) (rest := []) rfl rfl rfl (s_238 (d := d + 5) hS (by omega) (by omega)) ?_
  refine gW_eq (st' := [vI (S (113 + 6 * k))]) rfl (by rw [show S (113 + 6 * k + 0) = S (113 + 6 * k) from congrArg S (by omega)]) rfl ?_
  refine gW_eq (st' := [vI (nI v)]) rfl (by rw [show S (113 + 6 * k) = nI v from hv]) rfl ?_
  refine g_pure 2 (i' := 6) (lv' := [some (vR 800), some (vI (nI k)), some (vI (nI v)), none, none, none, none, none]) (st' := [vI (nI v)]) rfl ?_
  refine g_if1 (i' := 9) (P := 0 ≤ v) rfl rfl (g_geN (show nI v = nI v from (rfl : nI v = nI v)) (show 0 = nI 0 from (show (0 : Int32) = nI 0 from rfl)) (by omega) (by omega)) (fun _ => ?_) (fun h1 => absurd (by omega) h1)
  refine g_pure 5 (i' := 14) (lv' := [some (vR 800), some (vI (nI k)), some (vI (nI v)), none, none, none, none, none]) (st' := [vR 800, vI (nI v), vI (nI k), vI 2, vR 800]) rfl ?_
  refine g_cV1 rfl (args := [vR 800]) (rest := [vI (nI v), vI (nI k), vI 2, vR 800]) rfl rfl rfl (s_248 (d := d + 5) hS) ?_
  refine gW_eq (st' := [vI (nI (sn S 8)), vI (nI v), vI (nI k), vI (nI 2), vR 800]) rfl (by rw [(show (2 : Int32) = nI 2 from rfl), (show S 8 = nI (sn S 8) from (hI.c8))]) rfl ?_
  refine g_cV1E rfl (args := [vR 800, vI (nI 2), vI (nI k), vI (nI v), vI (nI (sn S 8))]) (rest := []) rfl rfl rfl (s_249 (d := d) hI hS hA (by omega) (by omega) (by omega) (by omega)) (fun s2 es2 => ?_)
  have hSs2 : s2 801 = S := by obtain ⟨f9, h9⟩ := es2; rw [h9, va_up_ne _ _ (by decide)]; exact hS
  have t3 := gsm_lt hA (sc := scf S k v (sn S 8)) 2
  refine g_pure 6 (i' := 22) (lv' := [some (vR 800), some (vI (nI k)), some (vI (nI v)), some (vI (nI (gsm S (scf S k v (sn S 8)) 2 (nln S)))), none, none, none, none]) (st' := [vI 3, vI (nI k), vR 800, vI 9999, vI (nI (gsm S (scf S k v (sn S 8)) 2 (nln S)))]) rfl ?_
  refine gW_eq (st' := [vI (nI 3), vI (nI k), vR 800, vI 9999, vI (nI (gsm S (scf S k v (sn S 8)) 2 (nln S)))]) rfl (by rw [(show (3 : Int32) = nI 3 from rfl)]) rfl ?_
  refine g_cV1 rfl (args := [vR 800, vI (nI k), vI (nI 3)]) (rest := [vI 9999, vI (nI (gsm S (scf S k v (sn S 8)) 2 (nln S)))]) rfl rfl rfl (s_238 (d := d + 5) hSs2 (by omega) (by omega)) ?_
  have t4 := (hI.per (k := k) (by omega)).2.1
  have t4b := t4.2
  refine gW_eq (lv' := [some (vR 800), some (vI (nI k)), some (vI (nI v)), some (vI (nI (gsm S (scf S k v (sn S 8)) 2 (nln S)))), none, none, none, none]) (st' := [vI (nI (sn S (113 + 6 * k + 3))), vI 9999, vI (nI (gsm S (scf S k v (sn S 8)) 2 (nln S)))]) rfl (by rw [(show S (113 + 6 * k + 3) = nI (sn S (113 + 6 * k + 3)) from t4.1)]) rfl ?_
  refine g_pure 1 (i' := 24) (lv' := [some (vR 800), some (vI (nI k)), some (vI (nI v)), some (vI (nI (gsm S (scf S k v (sn S 8)) 2 (nln S)))), none, none, none, none]) (st' := [vI (9999 - nI (sn S (113 + 6 * k + 3))), vI (nI (gsm S (scf S k v (sn S 8)) 2 (nln S)))]) rfl ?_
  refine gW_eq (lv' := [some (vR 800), some (vI (nI k)), some (vI (nI v)), some (vI (nI (gsm S (scf S k v (sn S 8)) 2 (nln S)))), none, none, none, none]) (st' := [vI (nI (9999 - sn S (113 + 6 * k + 3))), vI (nI (gsm S (scf S k v (sn S 8)) 2 (nln S)))]) rfl (by rw [(show (9999 - nI (sn S (113 + 6 * k + 3))) = nI (9999 - sn S (113 + 6 * k + 3)) from (g_sub (show (9999 : Int32) = nI 9999 from rfl) (rfl : nI (sn S (113 + 6 * k + 3)) = nI (sn S (113 + 6 * k + 3))) (by omega)))]) rfl ?_
  refine g_cS1 rfl (args := [vI (nI (gsm S (scf S k v (sn S 8)) 2 (nln S))), vI (nI (9999 - sn S (113 + 6 * k + 3)))]) (rest := []) rfl rfl rfl (s_313n (d := d + 5) (by omega) (by omega)) ?_
  have t5 := Nat.min_le_left (gsm S (scf S k v (sn S 8)) 2 (nln S)) (9999 - sn S (113 + 6 * k + 3))
  have t6 := Nat.min_le_right (gsm S (scf S k v (sn S 8)) 2 (nln S)) (9999 - sn S (113 + 6 * k + 3))
  refine g_pure 7 (i' := 32) (lv' := [some (vR 800), some (vI (nI k)), some (vI (nI v)), some (vI (nI (gsm S (scf S k v (sn S 8)) 2 (nln S)))), some (vI (nI (min (gsm S (scf S k v (sn S 8)) 2 (nln S)) (9999 - sn S (113 + 6 * k + 3))))), none, none, none]) (st' := [vI 3, vI (nI k), vR 800, vI 3, vI (nI k), vR 800]) rfl ?_
  refine gW_eq (st' := [vI (nI 3), vI (nI k), vR 800, vI 3, vI (nI k), vR 800]) rfl (by rw [(show (3 : Int32) = nI 3 from rfl)]) rfl ?_
  refine g_cV1 rfl (args := [vR 800, vI (nI k), vI (nI 3)]) (rest := [vI 3, vI (nI k), vR 800]) rfl rfl rfl (s_238 (d := d + 5) hSs2 (by omega) (by omega)) ?_
  have t7 := (hI.per (k := k) (by omega)).2.1
  have t7b := t7.2
  refine g_pure 2 (i' := 35) (lv' := [some (vR 800), some (vI (nI k)), some (vI (nI v)), some (vI (nI (gsm S (scf S k v (sn S 8)) 2 (nln S)))), some (vI (nI (min (gsm S (scf S k v (sn S 8)) 2 (nln S)) (9999 - sn S (113 + 6 * k + 3))))), none, none, none]) (st' := [vI (S (113 + 6 * k + 3) + nI (min (gsm S (scf S k v (sn S 8)) 2 (nln S)) (9999 - sn S (113 + 6 * k + 3)))), vI 3, vI (nI k), vR 800]) rfl ?_
  refine gW_eq (lv' := [some (vR 800), some (vI (nI k)), some (vI (nI v)), some (vI (nI (gsm S (scf S k v (sn S 8)) 2 (nln S)))), some (vI (nI (min (gsm S (scf S k v (sn S 8)) 2 (nln S)) (9999 - sn S (113 + 6 * k + 3))))), none, none, none]) (st' := [vI (nI (sn S (113 + 6 * k + 3) + min (gsm S (scf S k v (sn S 8)) 2 (nln S)) (9999 - sn S (113 + 6 * k + 3)))), vI 3, vI (nI k), vR 800]) rfl (by rw [(show (S (113 + 6 * k + 3) + nI (min (gsm S (scf S k v (sn S 8)) 2 (nln S)) (9999 - sn S (113 + 6 * k + 3)))) = nI (sn S (113 + 6 * k + 3) + min (gsm S (scf S k v (sn S 8)) 2 (nln S)) (9999 - sn S (113 + 6 * k + 3))) from ((g_add t7.1 (rfl : nI (min (gsm S (scf S k v (sn S 8)) 2 (nln S)) (9999 - sn S (113 + 6 * k + 3))) = nI (min (gsm S (scf S k v (sn S 8)) 2 (nln S)) (9999 - sn S (113 + 6 * k + 3)))))).trans (congrArg nI (by omega)))]) rfl ?_
  refine gW_eq (st' := [vI (nI (sn S (113 + 6 * k + 3) + min (gsm S (scf S k v (sn S 8)) 2 (nln S)) (9999 - sn S (113 + 6 * k + 3)))), vI (nI 3), vI (nI k), vR 800]) rfl (by rw [(show (3 : Int32) = nI 3 from rfl)]) rfl ?_
  refine g_cV0 rfl (args := [vR 800, vI (nI k), vI (nI 3), vI (nI (sn S (113 + 6 * k + 3) + min (gsm S (scf S k v (sn S 8)) 2 (nln S)) (9999 - sn S (113 + 6 * k + 3))))]) (rest := []) rfl rfl rfl (s_205 (d := d + 5) (by omega) (by omega)) ?_
  refine g_setv (fun s8 es8 => ?_)
  have hSs8 : s8 801 = upd S (113 + 6 * k + 3) (nI (sn S (113 + 6 * k + 3) + min (gsm S (scf S k v (sn S 8)) 2 (nln S)) (9999 - sn S (113 + 6 * k + 3)))) := by rw [es8, mu_row, hSs2]
  refine g_pure 4 (i' := 40) (lv' := [some (vR 800), some (vI (nI k)), some (vI (nI v)), some (vI (nI (gsm S (scf S k v (sn S 8)) 2 (nln S)))), some (vI (nI (min (gsm S (scf S k v (sn S 8)) 2 (nln S)) (9999 - sn S (113 + 6 * k + 3))))), none, none, none]) (st' := [vI 12, vR 801, vI 12, vR 801]) rfl ?_
  refine g_ald rfl (g_A (a := 801) (kd := 1) (n := 2407) rfl (by decide)) (by decide) (show 12 = nI 12 from (show (12 : Int32) = nI 12 from rfl)) (by decide) (show _ = S 12 from ((congrFun hSs8 12)).trans (upd_ne (by omega))) ?_
  refine g_pure 2 (i' := 43) (lv' := [some (vR 800), some (vI (nI k)), some (vI (nI v)), some (vI (nI (gsm S (scf S k v (sn S 8)) 2 (nln S)))), some (vI (nI (min (gsm S (scf S k v (sn S 8)) 2 (nln S)) (9999 - sn S (113 + 6 * k + 3))))), none, none, none]) (st' := [vI (S 12 + nI (min (gsm S (scf S k v (sn S 8)) 2 (nln S)) (9999 - sn S (113 + 6 * k + 3)))), vI 12, vR 801]) rfl ?_
  refine g_ast rfl (g_A (a := 801) (kd := 1) (n := 2407) rfl (by decide)) (by decide) (show 12 = nI 12 from (show (12 : Int32) = nI 12 from rfl)) (by decide) ?_
  refine g_setv (fun s9 es9 => ?_)
  have hSs9 : s9 801 = upd (upd S (113 + 6 * k + 3) (nI (sn S (113 + 6 * k + 3) + min (gsm S (scf S k v (sn S 8)) 2 (nln S)) (9999 - sn S (113 + 6 * k + 3))))) 12 (S 12 + nI (min (gsm S (scf S k v (sn S 8)) 2 (nln S)) (9999 - sn S (113 + 6 * k + 3)))) := by rw [es9, mu_row, hSs8]
  refine g_pure 4 (i' := 48) (lv' := [some (vR 800), some (vI (nI k)), some (vI (nI v)), some (vI (nI (gsm S (scf S k v (sn S 8)) 2 (nln S)))), some (vI (nI (min (gsm S (scf S k v (sn S 8)) 2 (nln S)) (9999 - sn S (113 + 6 * k + 3))))), none, none, none]) (st' := [vI 13, vR 801, vI 13, vR 801]) rfl ?_
  refine g_ald rfl (g_A (a := 801) (kd := 1) (n := 2407) rfl (by decide)) (by decide) (show 13 = nI 13 from (show (13 : Int32) = nI 13 from rfl)) (by decide) (show _ = S 13 from (((congrFun hSs9 13)).trans (upd_ne (by omega))).trans (upd_ne (by omega))) ?_
  refine g_pure 4 (i' := 53) (lv' := [some (vR 800), some (vI (nI k)), some (vI (nI v)), some (vI (nI (gsm S (scf S k v (sn S 8)) 2 (nln S)))), some (vI (nI (min (gsm S (scf S k v (sn S 8)) 2 (nln S)) (9999 - sn S (113 + 6 * k + 3))))), none, none, none]) (st' := [vI (S 13 + (nI (gsm S (scf S k v (sn S 8)) 2 (nln S)) - nI (min (gsm S (scf S k v (sn S 8)) 2 (nln S)) (9999 - sn S (113 + 6 * k + 3))))), vI 13, vR 801]) rfl ?_
  refine g_ast rfl (g_A (a := 801) (kd := 1) (n := 2407) rfl (by decide)) (by decide) (show 13 = nI 13 from (show (13 : Int32) = nI 13 from rfl)) (by decide) ?_
  refine g_setv (fun s10 es10 => ?_)
  have hSs10 : s10 801 = upd (upd (upd S (113 + 6 * k + 3) (nI (sn S (113 + 6 * k + 3) + min (gsm S (scf S k v (sn S 8)) 2 (nln S)) (9999 - sn S (113 + 6 * k + 3))))) 12 (S 12 + nI (min (gsm S (scf S k v (sn S 8)) 2 (nln S)) (9999 - sn S (113 + 6 * k + 3))))) 13 (S 13 + (nI (gsm S (scf S k v (sn S 8)) 2 (nln S)) - nI (min (gsm S (scf S k v (sn S 8)) 2 (nln S)) (9999 - sn S (113 + 6 * k + 3))))) := by rw [es10, mu_row, hSs9]
  exact o1 s2 es2 s8 es8 s9 es9 s10 es10 hSs10

theorem b_267_x {X : Nat × (Nat → Int32)} {d : Nat} {p : Nat → Nat} {sg : Mg} {Q : am_R → Prop} {B : Nat} {S : Nat → Int32} (hI : Inv B S) (hS : sg 801 = S) {k : Nat} (u_k : k ≤ 7) (q1 : k < sn S 1) (hv : S (113 + 6 * k) = -1)
    (o1 : Q (gRv p sg 0)) :
    gW X (d + 6) k_267 0 [some (vR 800), some (vI (nI k)), none, none, none, none, none, none] [] p sg Q := by
  have b0 := hI.b0; have b1 := hI.b1; have b2 := hI.b2; have b3 := hI.b3; have b4 := hI.b4; have b5 := hI.b5; have b6 := hI.b6; have b7 := hI.b7; have b8 := hI.b8; have b9 := hI.b9; have b14 := hI.b14
  refine g_pure 3 (i' := 3) (lv' := [some (vR 800), some (vI (nI k)), none, none, none, none, none, none]) (st' := [vI 0, vI (nI k), vR 800]) rfl ?_
  refine gW_eq (st' := [vI (nI 0), vI (nI k), vR 800]) rfl (by rw [(show (0 : Int32) = nI 0 from rfl)]) rfl ?_
  refine g_cV1 rfl (args := [vR 800, vI (nI k), vI (nI 0)]) (rest := []) rfl rfl rfl (s_238 (d := d + 5) hS (by omega) (by omega)) ?_
  refine gW_eq (st' := [vI (S (113 + 6 * k))]) rfl (by rw [show S (113 + 6 * k + 0) = S (113 + 6 * k) from congrArg S (by omega)]) rfl ?_
  refine gW_eq (st' := [vI (-1)]) rfl (by rw [show S (113 + 6 * k) = (-1) from hv]) rfl ?_
  refine g_pure 2 (i' := 6) (lv' := [some (vR 800), some (vI (nI k)), some (vI (-1)), none, none, none, none, none]) (st' := [vI (-1)]) rfl ?_
  refine g_if1 (i' := 9) (P := 0 ≤ ((-1) : Int32)) rfl rfl Iff.rfl (fun h1 => absurd h1 (by decide)) (fun _ => ?_)
  refine g_pure 1 (i' := 8) (lv' := [some (vR 800), some (vI (nI k)), some (vI (-1)), none, none, none, none, none]) (st' := [vI 0]) rfl ?_
  refine g_iret rfl ?_
  exact o1

theorem b_267_54 {X : Nat × (Nat → Int32)} {d : Nat} {p : Nat → Nat} {sg : Mg} {Q : am_R → Prop} {B : Nat} {S : Nat → Int32} (hI : Inv B S) (hS : sg 801 = S) {k : Nat} {v : Nat} {z3 : Option AV} {z4 : Option AV} (u_k : k ≤ 7) (u_v : v ≤ 5) (q1 : k < sn S 1) (q2 : v < sn S 0)
    (o1 : ∀ s2 : Mg, s2 = mu sg 801 (113 + 6 * k + 4) (S (113 + 6 * k + 4) ||| (1 <<< (S (17 + 16 * v + ((sn S 8) % (sn S 9))) &&& 31))) → s2 801 = (upd S (113 + 6 * k + 4) (S (113 + 6 * k + 4) ||| (1 <<< (S (17 + 16 * v + ((sn S 8) % (sn S 9))) &&& 31)))) → gW X (d + 6) k_267 76 [some (vR 800), some (vI (nI k)), some (vI (nI v)), z3, z4, some (vI (S (17 + 16 * v + ((sn S 8) % (sn S 9))))), some (vI 0), some (vI 0)] [] p s2 Q) :
    gW X (d + 6) k_267 54 [some (vR 800), some (vI (nI k)), some (vI (nI v)), z3, z4, none, none, none] [] p sg Q := by
  have b0 := hI.b0; have b1 := hI.b1; have b2 := hI.b2; have b3 := hI.b3; have b4 := hI.b4; have b5 := hI.b5; have b6 := hI.b6; have b7 := hI.b7; have b8 := hI.b8; have b9 := hI.b9; have b14 := hI.b14
  refine g_pure 3 (i' := 57) (lv' := [some (vR 800), some (vI (nI k)), some (vI (nI v)), z3, z4, none, none, none]) (st' := [vR 800, vI (nI v), vR 800]) rfl ?_
  refine g_cV1 rfl (args := [vR 800]) (rest := [vI (nI v), vR 800]) rfl rfl rfl (s_248 (d := d + 5) hS) ?_
  refine gW_eq (st' := [vI (nI (sn S 8)), vI (nI v), vR 800]) rfl (by rw [(show S 8 = nI (sn S 8) from (hI.c8))]) rfl ?_
  refine g_cV1 rfl (args := [vR 800, vI (nI v), vI (nI (sn S 8))]) (rest := []) rfl rfl rfl (s_232 (d := d + 4) hI hS (by omega) (by omega)) ?_
  have t1 := Nat.mod_lt ((sn S 8)) (y := sn S 9) (by omega)
  refine g_pure 7 (i' := 66) (lv' := [some (vR 800), some (vI (nI k)), some (vI (nI v)), z3, z4, some (vI (S (17 + 16 * v + ((sn S 8) % (sn S 9))))), none, none]) (st' := [vI 4, vI (nI k), vR 800, vI 4, vI (nI k), vR 800]) rfl ?_
  refine gW_eq (st' := [vI (nI 4), vI (nI k), vR 800, vI 4, vI (nI k), vR 800]) rfl (by rw [(show (4 : Int32) = nI 4 from rfl)]) rfl ?_
  refine g_cV1 rfl (args := [vR 800, vI (nI k), vI (nI 4)]) (rest := [vI 4, vI (nI k), vR 800]) rfl rfl rfl (s_238 (d := d + 5) hS (by omega) (by omega)) ?_
  refine g_pure 4 (i' := 71) (lv' := [some (vR 800), some (vI (nI k)), some (vI (nI v)), z3, z4, some (vI (S (17 + 16 * v + ((sn S 8) % (sn S 9))))), none, none]) (st' := [vI (S (113 + 6 * k + 4) ||| (1 <<< (S (17 + 16 * v + ((sn S 8) % (sn S 9))) &&& 31))), vI 4, vI (nI k), vR 800]) rfl ?_
  refine gW_eq (st' := [vI (S (113 + 6 * k + 4) ||| (1 <<< (S (17 + 16 * v + ((sn S 8) % (sn S 9))) &&& 31))), vI (nI 4), vI (nI k), vR 800]) rfl (by rw [(show (4 : Int32) = nI 4 from rfl)]) rfl ?_
  refine g_cV0 rfl (args := [vR 800, vI (nI k), vI (nI 4), vI (S (113 + 6 * k + 4) ||| (1 <<< (S (17 + 16 * v + ((sn S 8) % (sn S 9))) &&& 31)))]) (rest := []) rfl rfl rfl (s_205 (d := d + 5) (by omega) (by omega)) ?_
  refine g_setv (fun s2 es2 => ?_)
  have hSs2 : s2 801 = upd S (113 + 6 * k + 4) (S (113 + 6 * k + 4) ||| (1 <<< (S (17 + 16 * v + ((sn S 8) % (sn S 9))) &&& 31))) := by rw [es2, mu_row, hS]
  refine g_pure 4 (i' := 76) (lv' := [some (vR 800), some (vI (nI k)), some (vI (nI v)), z3, z4, some (vI (S (17 + 16 * v + ((sn S 8) % (sn S 9))))), some (vI 0), some (vI 0)]) (st' := []) rfl ?_
  exact o1 s2 es2 hSs2

theorem b_267_76 {X : Nat × (Nat → Int32)} {d : Nat} {p : Nat → Nat} {sg : Mg} {Q : am_R → Prop} {B : Nat} {S : Nat → Int32} (hI : Inv B S) (hS : sg 801 = S) {k : Nat} {v : Nat} {z3 : Option AV} {z4 : Option AV} {y : Nat} {c : Nat} {f : Nat} (u_k : k ≤ 7) (u_v : v ≤ 5) (u_y : y ≤ 15) (u_c : c ≤ 8) (u_f : f ≤ 8) (q1 : k < sn S 1)
    (o1 : (sn S 2 ≤ f) → Q (gRv p sg (nI c)))
    (o2 : (¬ (sn S 2 ≤ f)) → (¬ sn S (161 + 2 * f) = v) → gW X (d + 6) k_267 76 [some (vR 800), some (vI (nI k)), some (vI (nI v)), z3, z4, some (vI (nI y)), some (vI (nI c)), some (vI (nI (f + 1)))] [] p sg Q)
    (o3 : (¬ (sn S 2 ≤ f)) → (sn S (161 + 2 * f) = v) → (¬ sn S (161 + 2 * f + 1) = y) → gW X (d + 6) k_267 76 [some (vR 800), some (vI (nI k)), some (vI (nI v)), z3, z4, some (vI (nI y)), some (vI (nI c)), some (vI (nI (f + 1)))] [] p sg Q)
    (o4 : (¬ (sn S 2 ≤ f)) → (sn S (161 + 2 * f) = v) → (sn S (161 + 2 * f + 1) = y) → gW X (d + 6) k_267 102 [some (vR 800), some (vI (nI k)), some (vI (nI v)), z3, z4, some (vI (nI y)), some (vI (nI c)), some (vI (nI f))] [] p sg Q) :
    gW X (d + 6) k_267 76 [some (vR 800), some (vI (nI k)), some (vI (nI v)), z3, z4, some (vI (nI y)), some (vI (nI c)), some (vI (nI f))] [] p sg Q := by
  have b0 := hI.b0; have b1 := hI.b1; have b2 := hI.b2; have b3 := hI.b3; have b4 := hI.b4; have b5 := hI.b5; have b6 := hI.b6; have b7 := hI.b7; have b8 := hI.b8; have b9 := hI.b9; have b14 := hI.b14
  refine g_pure 2 (i' := 78) (lv' := [some (vR 800), some (vI (nI k)), some (vI (nI v)), z3, z4, some (vI (nI y)), some (vI (nI c)), some (vI (nI f))]) (st' := [vR 800, vI (nI f)]) rfl ?_
  refine g_cV1 rfl (args := [vR 800]) (rest := [vI (nI f)]) rfl rfl rfl (s_207 (d := d + 5) hS) ?_
  refine g_if2 (i' := 116) (P := sn S 2 ≤ f) rfl rfl (g_geN (show nI f = nI f from (rfl : nI f = nI f)) (show S 2 = nI (sn S 2) from (hI.c2)) (by omega) (by omega)) (fun h1 => ?_) (fun h1 => ?_)
  · refine g_pure 1 (i' := 117) (lv' := [some (vR 800), some (vI (nI k)), some (vI (nI v)), z3, z4, some (vI (nI y)), some (vI (nI c)), some (vI (nI f))]) (st' := [vI (nI c)]) rfl ?_
    refine g_iret rfl ?_
    exact o1 h1
  · refine g_pure 7 (i' := 87) (lv' := [some (vR 800), some (vI (nI k)), some (vI (nI v)), z3, z4, some (vI (nI y)), some (vI (nI c)), some (vI (nI f))]) (st' := [vI (161 + (2 * nI f)), vR 801]) rfl ?_
    refine gW_eq (lv' := [some (vR 800), some (vI (nI k)), some (vI (nI v)), z3, z4, some (vI (nI y)), some (vI (nI c)), some (vI (nI f))]) (st' := [vI (nI (161 + 2 * f)), vR 801]) rfl (by rw [(show (161 + (2 * nI f)) = nI (161 + 2 * f) from ((g_add (show (161 : Int32) = nI 161 from rfl) (g_mul (show (2 : Int32) = nI 2 from rfl) (rfl : nI f = nI f)))).trans (congrArg nI (by omega)))]) rfl ?_
    refine g_ald rfl (g_A (a := 801) (kd := 1) (n := 2407) rfl (by decide)) (by decide) (show nI (161 + 2 * f) = nI (161 + 2 * f) from (rfl : nI (161 + 2 * f) = nI (161 + 2 * f))) (by omega) (show _ = S (161 + 2 * f) from (congrFun hS (161 + 2 * f))) ?_
    refine g_pure 1 (i' := 89) (lv' := [some (vR 800), some (vI (nI k)), some (vI (nI v)), z3, z4, some (vI (nI y)), some (vI (nI c)), some (vI (nI f))]) (st' := [vI (nI v), vI (S (161 + 2 * f))]) rfl ?_
    have t2 := (hI.fac (k := f) (by omega)).1
    have t2b := t2.2
    refine g_if2 (i' := 114) (P := ¬ sn S (161 + 2 * f) = v) rfl rfl (g_neN (show S (161 + 2 * f) = nI (sn S (161 + 2 * f)) from t2.1) (show nI v = nI v from (rfl : nI v = nI v)) (by omega) (by omega)) (fun h3 => ?_) (fun h3 => ?_)
    · refine g_pure 2 (i' := 76) (lv' := [some (vR 800), some (vI (nI k)), some (vI (nI v)), z3, z4, some (vI (nI y)), some (vI (nI c)), some (vI (nI f + 1))]) (st' := []) rfl ?_
      refine gW_eq (lv' := [some (vR 800), some (vI (nI k)), some (vI (nI v)), z3, z4, some (vI (nI y)), some (vI (nI c)), some (vI (nI (f + 1)))]) (st' := []) (by rw [(show (nI f + 1) = nI (f + 1) from ((g_add (rfl : nI f = nI f) (show (1 : Int32) = nI 1 from rfl))).trans (congrArg nI (by omega)))]) rfl rfl ?_
      exact o2 h1 h3
    · have h3 := Classical.not_not.mp h3
      refine g_pure 9 (i' := 99) (lv' := [some (vR 800), some (vI (nI k)), some (vI (nI v)), z3, z4, some (vI (nI y)), some (vI (nI c)), some (vI (nI f))]) (st' := [vI ((161 + (2 * nI f)) + 1), vR 801]) rfl ?_
      refine gW_eq (lv' := [some (vR 800), some (vI (nI k)), some (vI (nI v)), z3, z4, some (vI (nI y)), some (vI (nI c)), some (vI (nI f))]) (st' := [vI (nI (161 + 2 * f + 1)), vR 801]) rfl (by rw [(show ((161 + (2 * nI f)) + 1) = nI (161 + 2 * f + 1) from ((g_add (g_add (show (161 : Int32) = nI 161 from rfl) (g_mul (show (2 : Int32) = nI 2 from rfl) (rfl : nI f = nI f))) (show (1 : Int32) = nI 1 from rfl))).trans (congrArg nI (by omega)))]) rfl ?_
      refine g_ald rfl (g_A (a := 801) (kd := 1) (n := 2407) rfl (by decide)) (by decide) (show nI (161 + 2 * f + 1) = nI (161 + 2 * f + 1) from (rfl : nI (161 + 2 * f + 1) = nI (161 + 2 * f + 1))) (by omega) (show _ = S (161 + 2 * f + 1) from (congrFun hS (161 + 2 * f + 1))) ?_
      refine g_pure 1 (i' := 101) (lv' := [some (vR 800), some (vI (nI k)), some (vI (nI v)), z3, z4, some (vI (nI y)), some (vI (nI c)), some (vI (nI f))]) (st' := [vI (nI y), vI (S (161 + 2 * f + 1))]) rfl ?_
      have t4 := (hI.fac (k := f) (by omega)).2
      have t4b := t4.2
      refine g_if2 (i' := 114) (P := ¬ sn S (161 + 2 * f + 1) = y) rfl rfl (g_neN (show S (161 + 2 * f + 1) = nI (sn S (161 + 2 * f + 1)) from t4.1) (show nI y = nI y from (rfl : nI y = nI y)) (by omega) (by omega)) (fun h5 => ?_) (fun h5 => ?_)
      · refine g_pure 2 (i' := 76) (lv' := [some (vR 800), some (vI (nI k)), some (vI (nI v)), z3, z4, some (vI (nI y)), some (vI (nI c)), some (vI (nI f + 1))]) (st' := []) rfl ?_
        refine gW_eq (lv' := [some (vR 800), some (vI (nI k)), some (vI (nI v)), z3, z4, some (vI (nI y)), some (vI (nI c)), some (vI (nI (f + 1)))]) (st' := []) (by rw [(show (nI f + 1) = nI (f + 1) from ((g_add (rfl : nI f = nI f) (show (1 : Int32) = nI 1 from rfl))).trans (congrArg nI (by omega)))]) rfl rfl ?_
        exact o3 h1 h3 h5
      · have h5 := Classical.not_not.mp h5
        exact o4 h1 h3 h5

theorem l_267_76 {X : Nat × (Nat → Int32)} {d : Nat} {p : Nat → Nat} {sg : Mg} {B : Nat} {S : Nat → Int32} (hI : Inv B S) (hS : sg 801 = S) {Q : am_R → Prop} {k v y : Nat} {z3 z4 : Option AV} (hk : k < sn S 1) (hv : v ≤ 5) (hy : y ≤ 15) (x : Q (gRv p (va_up sg 801 (fcA S k v y (sn S 2)).1) (nI (fcA S k v y (sn S 2)).2))) :
    gW X (d + 6) k_267 76 [some (vR 800), some (vI (nI k)), some (vI (nI v)), z3, z4, some (vI (nI y)), some (vI (nI 0)), some (vI (nI 0))] [] p sg Q := by
  have b1 := hI.b1; have b2 := hI.b2
  have key := g_upI (P := fun f => gW X (d + 6) k_267 76 [some (vR 800), some (vI (nI k)), some (vI (nI v)), z3, z4, some (vI (nI y)), some (vI (nI (fcA S k v y f).2)), some (vI (nI f))] [] p (va_up sg 801 (fcA S k v y f).1) Q) (I := fun _ => True) (n := sn S 2) (a := 0) (by omega) trivial ?_ ?_
  · have e : va_up sg 801 (fcA S k v y 0).1 = sg := by
      rw [show (fcA S k v y 0).1 = sg 801 from hS.symm]; exact va_up_same
    rw [e] at key
    exact key
  · intro f _ hf _ ih
    have ih := ih trivial
    obtain ⟨hT, hT1, hT2⟩ := fcA_inv hI (v := v) (y := y) hk f (by omega)
    rw [show fcA S k v y (f + 1) = if sn S (161 + 2 * f) = v ∧ sn S (161 + 2 * f + 1) = y then (lrS (fcA S k v y f).1 k f 9, (fcA S k v y f).2 + (if (sn (fcA S k v y f).1 (113 + 6 * k + 5)).testBit f = true then 0 else 1)) else fcA S k v y f from rfl] at ih
    have t1 : sn (fcA S k v y f).1 1 = sn S 1 := sn_eq (hT2 1 (by omega))
    have t2 : sn (fcA S k v y f).1 2 = sn S 2 := sn_eq (hT2 2 (by omega))
    rw [← sn_eq (hT2 (161 + 2 * f) (by omega)), ← sn_eq (hT2 (161 + 2 * f + 1) (by omega))] at ih
    generalize fcA S k v y f = T at hT hT1 t1 t2 ih ⊢
    refine b_267_76 hT (va_up_self _ _ _) (by omega) hv hy (by omega) (by omega) (by omega) (fun h => by omega) (fun _ h => ?_) (fun _ h h3 => ?_) (fun _ h h3 => ?_)
    · rw [if_neg (fun h9 => h h9.1)] at ih
      exact ih
    · rw [if_neg (fun h9 => h3 h9.2)] at ih
      exact ih
    · rw [if_pos ⟨h, h3⟩] at ih
      refine g_pure 5 (i' := 107) (lv' := [some (vR 800), some (vI (nI k)), some (vI (nI v)), z3, z4, some (vI (nI y)), some (vI (nI T.2)), some (vI (nI f))]) (st' := [vI (nI 9), vI (nI f), vI (nI k), vR 800, vI (nI T.2)]) rfl ?_
      refine g_cV1 rfl (args := [vR 800, vI (nI k), vI (nI f), vI (nI 9)]) (rest := [vI (nI T.2)]) rfl rfl rfl (s_261 (d := d + 4) hT (va_up_self _ _ _) (by omega) (by omega) (by omega)) ?_
      rw [va_up2]
      have fin : ∀ n x, x = nI T.2 + nI n → n = (if (sn T.1 (113 + 6 * k + 5)).testBit f = true then 0 else 1) → gW X (d + 6) k_267 113 [some (vR 800), some (vI (nI k)), some (vI (nI v)), z3, z4, some (vI (nI y)), some (vI (nI T.2)), some (vI (nI f))] [vI x] p (va_up sg 801 (lrS T.1 k f 9)) Q := by
        intro n x hx hn
        refine g_pure 3 (i' := 76) (lv' := [some (vR 800), some (vI (nI k)), some (vI (nI v)), z3, z4, some (vI (nI y)), some (vI x), some (vI (nI f + 1))]) (st' := []) rfl ?_
        refine gW_eq (lv' := [some (vR 800), some (vI (nI k)), some (vI (nI v)), z3, z4, some (vI (nI y)), some (vI (nI (T.2 + n))), some (vI (nI (f + 1)))]) (by rw [nI_succ, hx, nI_add]) rfl rfl ?_
        rw [hn]
        exact ih
      refine g_if1 (i' := 111) (P := (sn T.1 (113 + 6 * k + 5)).testBit f = true) rfl rfl ?_ (fun hb => ?_) (fun hb => ?_)
      · show (if (sn T.1 (113 + 6 * k + 5)).testBit f = true then (0 : Int32) else 1) = 0 ↔ _
        by_cases hb : (sn T.1 (113 + 6 * k + 5)).testBit f = true
        · rw [if_pos hb]; exact ⟨fun _ => hb, fun _ => rfl⟩
        · rw [if_neg hb]; exact ⟨fun h => absurd h (by decide), fun h => absurd h hb⟩
      · refine g_pure 2 (i' := 113) (lv' := [some (vR 800), some (vI (nI k)), some (vI (nI v)), z3, z4, some (vI (nI y)), some (vI (nI T.2)), some (vI (nI f))]) (st' := [vI (nI T.2 + 0)]) rfl ?_
        exact fin 0 _ rfl (by rw [if_pos hb])
      · refine g_pure 3 (i' := 113) (lv' := [some (vR 800), some (vI (nI k)), some (vI (nI v)), z3, z4, some (vI (nI y)), some (vI (nI T.2)), some (vI (nI f))]) (st' := [vI (nI T.2 + 1)]) rfl ?_
        exact fin 1 _ rfl (by rw [if_neg hb])
  · intro _
    obtain ⟨hT, hT1, hT2⟩ := fcA_inv hI (v := v) (y := y) hk (sn S 2) (by omega)
    have t1 : sn (fcA S k v y (sn S 2)).1 1 = sn S 1 := sn_eq (hT2 1 (by omega))
    have t2 : sn (fcA S k v y (sn S 2)).1 2 = sn S 2 := sn_eq (hT2 2 (by omega))
    exact b_267_76 hT (va_up_self _ _ _) (by omega) hv hy (by omega) (by omega) (by omega) (fun _ => x) (fun h => by omega) (fun h => by omega) (fun h => by omega)

/-- the day of a village now -/
def dyS (S : Nat → Int32) (v : Nat) : Nat := sn S (17 + 16 * v + sn S 8 % sn S 9)
/-- one earns, and lives the day: what is then, and how many facts are new -/
def lvA (S : Nat → Int32) (k v : Nat) : (Nat → Int32) × Nat := fcA (lvS (erS S k (gnS S k v)) k (dyS (erS S k (gnS S k v)) v)) k v (dyS (erS S k (gnS S k v)) v) (sn (erS S k (gnS S k v)) 2)
theorem s_267 {X : Nat × (Nat → Int32)} {d : Nat} {p : Nat → Nat} {sg : Mg} {B : Nat} {S : Nat → Int32} (hI : Inv B S) (hS : sg 801 = S) (hA : InvA S) {k v : Nat} (hk : k < sn S 1) (hv : S (113 + 6 * k) = nI v) (hv0 : v < sn S 0) : gF X (d + 7) 267 [vR 800, vI (nI k)] p sg (fun r => ∃ f, r = gRv p (va_up (va_up sg 807 f) 801 (lvA S k v).1) (nI (lvA S k v).2)) := by
  have b0 := hI.b0; have b1 := hI.b1; have b9 := hI.b9
  have hE : Inv B (erS S k (gnS S k v)) := hI.erI hk
  refine g_in (cd := k_267) (nL := 8) (rc := 13) rfl (g_A (a := 800) (kd := 0) (n := 12) rfl (by decide)) (g_c1 rfl) (b_267_0 hI hS hA (by omega) hk hv0 hv ?_)
  intro s2 h2 s8 e8 s9 e9 s10 e10 h10
  obtain ⟨f, rfl⟩ := h2
  have ml := Nat.min_le_left (gnS S k v) (9999 - sn S (113 + 6 * k + 3))
  have e0 : s10 801 = erS S k (gnS S k v) := by
    rw [h10]
    rfl
  have e1 : s10 = va_up (va_up sg 807 f) 801 (erS S k (gnS S k v)) := by
    funext c
    by_cases hc : c = 801
    · subst hc; rw [va_up_self, e0]
    · rw [va_up_ne _ _ hc, e10, mu_ne hc, e9, mu_ne hc, e8, mu_ne hc]
  unfold lvA
  have k1 : k < sn (erS S k (gnS S k v)) 1 := by rw [sn_eq (erS_ne (by omega) (by omega) (by omega))]; exact hk
  have k0 : v < sn (erS S k (gnS S k v)) 0 := by rw [sn_eq (erS_ne (by omega) (by omega) (by omega))]; exact hv0
  generalize hgE : erS S k (gnS S k v) = E at hE e0 e1 k1 k0 ⊢
  have b9 := hE.b9
  have hm := Nat.mod_lt (sn E 8) (show 0 < sn E 9 by omega)
  have hyt : E (17 + 16 * v + sn E 8 % sn E 9) = nI (dyS E v) := hE.tb k0 hm
  have hyb : dyS E v < sn E 9 := hE.tbb k0 hm
  obtain ⟨c1, c2⟩ := (hE.per k1).2.2.1
  refine b_267_54 hE e0 (by omega) (by omega) k1 k0 ?_
  intro s11 e11 h11
  have e : E (113 + 6 * k + 4) ||| (1 <<< (E (17 + 16 * v + sn E 8 % sn E 9) &&& 31)) = nI (sn E (113 + 6 * k + 4) ||| 2 ^ dyS E v) := by
    rw [hyt, show E (113 + 6 * k + 4) = nI (sn E (113 + 6 * k + 4)) from c1, nI_orbit (by omega)]
  rw [e] at h11 e11
  rw [hyt]
  have h11 : s11 801 = lvS E k (dyS E v) := h11
  have e12 : s11 = va_up (va_up sg 807 f) 801 (lvS E k (dyS E v)) := by
    funext c
    by_cases hc : c = 801
    · subst hc; rw [va_up_self, h11]
    · rw [va_up_ne _ _ hc, e11, mu_ne hc, e1, va_up_ne _ _ hc]
  refine l_267_76 (hE.lvI k1 (by omega)) h11 (by rw [sn_eq (lvS_ne (by omega))]; exact k1) (by omega) (by omega) ⟨f, ?_⟩
  rw [e12, va_up2, sn_eq (S := E) (i := 2) (lvS_ne (by omega))]
