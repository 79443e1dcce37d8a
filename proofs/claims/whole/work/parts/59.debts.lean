/-! DEBTS ARE SETTLED (made by wip/whole/gen59.py) -/
theorem b_34_0 {X : Nat × (Nat → Int32)} {d : Nat} {p : Nat → Nat} {sg : Mg} {Q : am_R → Prop} {B : Nat} {S : Nat → Int32} (hI : Inv B S) (hL : cwL 250 sg S) (hD : cwD 200 sg S) {j : Nat} {a : Nat} {b : Nat} (u_j : j ≤ 7) (u_a : a ≤ 7) (u_b : b ≤ 7) (q1 : j < sn S 4) (q2 : a < sn S 1) (q3 : b < sn S 1) (q4 : a ≠ b)
    (o1 : ∀ s9 : Mg, s9 = mu sg 255 a (nI (sn S (113 + 6 * a + 3) - min (sn S (213 + 7 * j + 2)) (min (sn S (113 + 6 * a + 3)) (9999 - sn S (113 + 6 * b + 3))))) → ∀ s11 : Mg, s11 = mu s9 255 b (nI (sn S (113 + 6 * b + 3) + min (sn S (213 + 7 * j + 2)) (min (sn S (113 + 6 * a + 3)) (9999 - sn S (113 + 6 * b + 3))))) → ∀ s13 : Mg, s13 = mu s11 258 j (S (213 + 7 * j + 6) + (nI (sn S (213 + 7 * j + 2)) - nI (min (sn S (213 + 7 * j + 2)) (min (sn S (113 + 6 * a + 3)) (9999 - sn S (113 + 6 * b + 3)))))) → cwL 250 s13 (upd (upd (upd S (113 + 6 * a + 3) (nI (sn S (113 + 6 * a + 3) - min (sn S (213 + 7 * j + 2)) (min (sn S (113 + 6 * a + 3)) (9999 - sn S (113 + 6 * b + 3)))))) (113 + 6 * b + 3) (nI (sn S (113 + 6 * b + 3) + min (sn S (213 + 7 * j + 2)) (min (sn S (113 + 6 * a + 3)) (9999 - sn S (113 + 6 * b + 3)))))) (213 + 7 * j + 6) (S (213 + 7 * j + 6) + (nI (sn S (213 + 7 * j + 2)) - nI (min (sn S (213 + 7 * j + 2)) (min (sn S (113 + 6 * a + 3)) (9999 - sn S (113 + 6 * b + 3))))))) → cwD 200 s13 (upd (upd (upd S (113 + 6 * a + 3) (nI (sn S (113 + 6 * a + 3) - min (sn S (213 + 7 * j + 2)) (min (sn S (113 + 6 * a + 3)) (9999 - sn S (113 + 6 * b + 3)))))) (113 + 6 * b + 3) (nI (sn S (113 + 6 * b + 3) + min (sn S (213 + 7 * j + 2)) (min (sn S (113 + 6 * a + 3)) (9999 - sn S (113 + 6 * b + 3)))))) (213 + 7 * j + 6) (S (213 + 7 * j + 6) + (nI (sn S (213 + 7 * j + 2)) - nI (min (sn S (213 + 7 * j + 2)) (min (sn S (113 + 6 * a + 3)) (9999 - sn S (113 + 6 * b + 3))))))) → Q (gR0 p s13)) :
    gW X (d + 1) k_34 0 [some (vR 6), some (vI (nI j)), some (vI (nI a)), some (vI (nI b)), none, none] [] p sg Q := by
  have b0 := hI.b0; have b1 := hI.b1; have b2 := hI.b2; have b3 := hI.b3; have b4 := hI.b4; have b5 := hI.b5; have b6 := hI.b6; have b7 := hI.b7; have b8 := hI.b8; have b9 := hI.b9; have b14 := hI.b14
  refine g_pure 4 (i' := 4) (lv' := [some (vR 6), some (vI (nI j)), some (vI (nI a)), some (vI (nI b)), none, none]) (st' := [vI (nI j), vR 206]) rfl ?_
  refine g_aald rfl (Or.inl rfl) (g_A (a := 206) (kd := 5) (n := 8) rfl (by decide)) (by decide) (show nI j = nI j from (rfl : nI j = nI j)) (by omega) (gR_206 (by omega)) ?_
  refine g_pure 1 (i' := 6) (lv' := [some (vR 6), some (vI (nI j)), some (vI (nI a)), some (vI (nI b)), none, none]) (st' := [vI 2, vR (234 + j)]) rfl ?_
  refine g_ald rfl (gA_206 (by omega)) (by decide) (show 2 = nI 2 from (show (2 : Int32) = nI 2 from rfl)) (by decide) (show _ = S (213 + 7 * j + 2) from (hD.deb 2 (by omega) (by decide))) ?_
  refine g_pure 6 (i' := 13) (lv' := [some (vR 6), some (vI (nI j)), some (vI (nI a)), some (vI (nI b)), some (vI (S (213 + 7 * j + 2))), none]) (st' := [vI (nI a), vR 255, vI (S (213 + 7 * j + 2))]) rfl ?_
  refine g_ald rfl (g_A (a := 255) (kd := 1) (n := 8) rfl (by decide)) (by decide) (show nI a = nI a from (rfl : nI a = nI a)) (by omega) (show _ = S (113 + 6 * a + 3) from (hL.per 3 (by decide) (by omega))) ?_
  refine g_pure 5 (i' := 19) (lv' := [some (vR 6), some (vI (nI j)), some (vI (nI a)), some (vI (nI b)), some (vI (S (213 + 7 * j + 2))), none]) (st' := [vI (nI b), vR 255, vI 9999, vI (S (113 + 6 * a + 3)), vI (S (213 + 7 * j + 2))]) rfl ?_
  refine g_ald rfl (g_A (a := 255) (kd := 1) (n := 8) rfl (by decide)) (by decide) (show nI b = nI b from (rfl : nI b = nI b)) (by omega) (show _ = S (113 + 6 * b + 3) from (hL.per 3 (by decide) (by omega))) ?_
  have t1 := (hI.per (k := b) (by omega)).2.1
  have t1b := t1.2
  refine gW_eq (lv' := [some (vR 6), some (vI (nI j)), some (vI (nI a)), some (vI (nI b)), some (vI (S (213 + 7 * j + 2))), none]) (st' := [vI (nI (sn S (113 + 6 * b + 3))), vI 9999, vI (S (113 + 6 * a + 3)), vI (S (213 + 7 * j + 2))]) rfl (by rw [(show S (113 + 6 * b + 3) = nI (sn S (113 + 6 * b + 3)) from t1.1)]) rfl ?_
  refine g_pure 1 (i' := 21) (lv' := [some (vR 6), some (vI (nI j)), some (vI (nI a)), some (vI (nI b)), some (vI (S (213 + 7 * j + 2))), none]) (st' := [vI (9999 - nI (sn S (113 + 6 * b + 3))), vI (S (113 + 6 * a + 3)), vI (S (213 + 7 * j + 2))]) rfl ?_
  refine gW_eq (lv' := [some (vR 6), some (vI (nI j)), some (vI (nI a)), some (vI (nI b)), some (vI (S (213 + 7 * j + 2))), none]) (st' := [vI (nI (9999 - sn S (113 + 6 * b + 3))), vI (S (113 + 6 * a + 3)), vI (S (213 + 7 * j + 2))]) rfl (by rw [(show (9999 - nI (sn S (113 + 6 * b + 3))) = nI (9999 - sn S (113 + 6 * b + 3)) from (g_sub (show (9999 : Int32) = nI 9999 from rfl) (rfl : nI (sn S (113 + 6 * b + 3)) = nI (sn S (113 + 6 * b + 3))) (by omega)))]) rfl ?_
  have t2 := (hI.per (k := a) (by omega)).2.1
  have t2b := t2.2
  refine gW_eq (st' := [vI (nI (9999 - sn S (113 + 6 * b + 3))), vI (nI (sn S (113 + 6 * a + 3))), vI (S (213 + 7 * j + 2))]) rfl (by rw [(show S (113 + 6 * a + 3) = nI (sn S (113 + 6 * a + 3)) from t2.1)]) rfl ?_
  refine g_cS1 rfl (args := [vI (nI (sn S (113 + 6 * a + 3))), vI (nI (9999 - sn S (113 + 6 * b + 3)))]) (rest := [vI (S (213 + 7 * j + 2))]) rfl rfl rfl (s_313n (d := d) (by omega) (by omega)) ?_
  have t3 := Nat.min_le_left (sn S (113 + 6 * a + 3)) (9999 - sn S (113 + 6 * b + 3))
  have t4 := Nat.min_le_right (sn S (113 + 6 * a + 3)) (9999 - sn S (113 + 6 * b + 3))
  have t5 := (hI.deb (k := j) (by omega)).2.2.1
  have t5b := t5.2
  refine gW_eq (st' := [vI (nI (min (sn S (113 + 6 * a + 3)) (9999 - sn S (113 + 6 * b + 3)))), vI (nI (sn S (213 + 7 * j + 2)))]) rfl (by rw [(show S (213 + 7 * j + 2) = nI (sn S (213 + 7 * j + 2)) from t5.1)]) rfl ?_
  refine g_cS1 rfl (args := [vI (nI (sn S (213 + 7 * j + 2))), vI (nI (min (sn S (113 + 6 * a + 3)) (9999 - sn S (113 + 6 * b + 3))))]) (rest := []) rfl rfl rfl (s_313n (d := d) (by omega) (by omega)) ?_
  have t6 := Nat.min_le_left (sn S (213 + 7 * j + 2)) (min (sn S (113 + 6 * a + 3)) (9999 - sn S (113 + 6 * b + 3)))
  have t7 := Nat.min_le_right (sn S (213 + 7 * j + 2)) (min (sn S (113 + 6 * a + 3)) (9999 - sn S (113 + 6 * b + 3)))
  refine g_pure 6 (i' := 29) (lv' := [some (vR 6), some (vI (nI j)), some (vI (nI a)), some (vI (nI b)), some (vI (S (213 + 7 * j + 2))), some (vI (nI (min (sn S (213 + 7 * j + 2)) (min (sn S (113 + 6 * a + 3)) (9999 - sn S (113 + 6 * b + 3))))))]) (st' := [vI (nI a), vR 255, vI (nI a), vR 255]) rfl ?_
  refine g_ald rfl (g_A (a := 255) (kd := 1) (n := 8) rfl (by decide)) (by decide) (show nI a = nI a from (rfl : nI a = nI a)) (by omega) (show _ = S (113 + 6 * a + 3) from (hL.per 3 (by decide) (by omega))) ?_
  have t8 := (hI.per (k := a) (by omega)).2.1
  have t8b := t8.2
  refine g_pure 1 (i' := 31) (lv' := [some (vR 6), some (vI (nI j)), some (vI (nI a)), some (vI (nI b)), some (vI (S (213 + 7 * j + 2))), some (vI (nI (min (sn S (213 + 7 * j + 2)) (min (sn S (113 + 6 * a + 3)) (9999 - sn S (113 + 6 * b + 3))))))]) (st' := [vI (nI (min (sn S (213 + 7 * j + 2)) (min (sn S (113 + 6 * a + 3)) (9999 - sn S (113 + 6 * b + 3))))), vI (S (113 + 6 * a + 3)), vI (nI a), vR 255]) rfl ?_
  refine gW_eq (lv' := [some (vR 6), some (vI (nI j)), some (vI (nI a)), some (vI (nI b)), some (vI (S (213 + 7 * j + 2))), some (vI (nI (min (sn S (213 + 7 * j + 2)) (min (sn S (113 + 6 * a + 3)) (9999 - sn S (113 + 6 * b + 3))))))]) (st' := [vI (nI (min (sn S (213 + 7 * j + 2)) (min (sn S (113 + 6 * a + 3)) (9999 - sn S (113 + 6 * b + 3))))), vI (nI (sn S (113 + 6 * a + 3))), vI (nI a), vR 255]) rfl (by rw [(show S (113 + 6 * a + 3) = nI (sn S (113 + 6 * a + 3)) from t8.1)]) rfl ?_
  refine g_pure 1 (i' := 32) (lv' := [some (vR 6), some (vI (nI j)), some (vI (nI a)), some (vI (nI b)), some (vI (S (213 + 7 * j + 2))), some (vI (nI (min (sn S (213 + 7 * j + 2)) (min (sn S (113 + 6 * a + 3)) (9999 - sn S (113 + 6 * b + 3))))))]) (st' := [vI (nI (sn S (113 + 6 * a + 3)) - nI (min (sn S (213 + 7 * j + 2)) (min (sn S (113 + 6 * a + 3)) (9999 - sn S (113 + 6 * b + 3))))), vI (nI a), vR 255]) rfl ?_
  refine gW_eq (lv' := [some (vR 6), some (vI (nI j)), some (vI (nI a)), some (vI (nI b)), some (vI (S (213 + 7 * j + 2))), some (vI (nI (min (sn S (213 + 7 * j + 2)) (min (sn S (113 + 6 * a + 3)) (9999 - sn S (113 + 6 * b + 3))))))]) (st' := [vI (nI (sn S (113 + 6 * a + 3) - min (sn S (213 + 7 * j + 2)) (min (sn S (113 + 6 * a + 3)) (9999 - sn S (113 + 6 * b + 3))))), vI (nI a), vR 255]) rfl (by rw [(show (nI (sn S (113 + 6 * a + 3)) - nI (min (sn S (213 + 7 * j + 2)) (min (sn S (113 + 6 * a + 3)) (9999 - sn S (113 + 6 * b + 3))))) = nI (sn S (113 + 6 * a + 3) - min (sn S (213 + 7 * j + 2)) (min (sn S (113 + 6 * a + 3)) (9999 - sn S (113 + 6 * b + 3)))) from (g_sub (rfl : nI (sn S (113 + 6 * a + 3)) = nI (sn S (113 + 6 * a + 3))) (rfl : nI (min (sn S (213 + 7 * j + 2)) (min (sn S (113 + 6 * a + 3)) (9999 - sn S (113 + 6 * b + 3)))) = nI (min (sn S (213 + 7 * j + 2)) (min (sn S (113 + 6 * a + 3)) (9999 - sn S (113 + 6 * b + 3))))) (by omega)))]) rfl ?_
  refine g_ast rfl (g_A (a := 255) (kd := 1) (n := 8) rfl (by decide)) (by decide) (show nI a = nI a from (rfl : nI a = nI a)) (by omega) ?_
  refine g_setv (fun s9 es9 => ?_)
  have hLs9 : cwL 250 s9 (upd S (113 + 6 * a + 3) (nI (sn S (113 + 6 * a + 3) - min (sn S (213 + 7 * j + 2)) (min (sn S (113 + 6 * a + 3)) (9999 - sn S (113 + 6 * b + 3)))))) := by rw [es9]; exact hL.wper (j := 3) (by decide) (by omega)
  have hDs9 : cwD 200 s9 (upd S (113 + 6 * a + 3) (nI (sn S (113 + 6 * a + 3) - min (sn S (213 + 7 * j + 2)) (min (sn S (113 + 6 * a + 3)) (9999 - sn S (113 + 6 * b + 3)))))) := by rw [es9]; exact hD.life (by decide) (by unfold noLand; omega)
  refine g_pure 5 (i' := 38) (lv' := [some (vR 6), some (vI (nI j)), some (vI (nI a)), some (vI (nI b)), some (vI (S (213 + 7 * j + 2))), some (vI (nI (min (sn S (213 + 7 * j + 2)) (min (sn S (113 + 6 * a + 3)) (9999 - sn S (113 + 6 * b + 3))))))]) (st' := [vI (nI b), vR 255, vI (nI b), vR 255]) rfl ?_
  refine g_ald rfl (g_A (a := 255) (kd := 1) (n := 8) rfl (by decide)) (by decide) (show nI b = nI b from (rfl : nI b = nI b)) (by omega) (show _ = S (113 + 6 * b + 3) from ((hLs9.per 3 (by decide) (by omega))).trans (upd_ne (by omega))) ?_
  have t10 := (hI.per (k := b) (by omega)).2.1
  have t10b := t10.2
  refine g_pure 2 (i' := 41) (lv' := [some (vR 6), some (vI (nI j)), some (vI (nI a)), some (vI (nI b)), some (vI (S (213 + 7 * j + 2))), some (vI (nI (min (sn S (213 + 7 * j + 2)) (min (sn S (113 + 6 * a + 3)) (9999 - sn S (113 + 6 * b + 3))))))]) (st' := [vI (S (113 + 6 * b + 3) + nI (min (sn S (213 + 7 * j + 2)) (min (sn S (113 + 6 * a + 3)) (9999 - sn S (113 + 6 * b + 3))))), vI (nI b), vR 255]) rfl ?_
  refine gW_eq (lv' := [some (vR 6), some (vI (nI j)), some (vI (nI a)), some (vI (nI b)), some (vI (S (213 + 7 * j + 2))), some (vI (nI (min (sn S (213 + 7 * j + 2)) (min (sn S (113 + 6 * a + 3)) (9999 - sn S (113 + 6 * b + 3))))))]) (st' := [vI (nI (sn S (113 + 6 * b + 3) + min (sn S (213 + 7 * j + 2)) (min (sn S (113 + 6 * a + 3)) (9999 - sn S (113 + 6 * b + 3))))), vI (nI b), vR 255]) rfl (by rw [(show (S (113 + 6 * b + 3) + nI (min (sn S (213 + 7 * j + 2)) (min (sn S (113 + 6 * a + 3)) (9999 - sn S (113 + 6 * b + 3))))) = nI (sn S (113 + 6 * b + 3) + min (sn S (213 + 7 * j + 2)) (min (sn S (113 + 6 * a + 3)) (9999 - sn S (113 + 6 * b + 3)))) from ((g_add t10.1 (rfl : nI (min (sn S (213 + 7 * j + 2)) (min (sn S (113 + 6 * a + 3)) (9999 - sn S (113 + 6 * b + 3)))) = nI (min (sn S (213 + 7 * j + 2)) (min (sn S (113 + 6 * a + 3)) (9999 - sn S (113 + 6 * b + 3))))))).trans (congrArg nI (by omega)))]) rfl ?_
  refine g_ast rfl (g_A (a := 255) (kd := 1) (n := 8) rfl (by decide)) (by decide) (show nI b = nI b from (rfl : nI b = nI b)) (by omega) ?_
  refine g_setv (fun s11 es11 => ?_)
  have hLs11 : cwL 250 s11 (upd (upd S (113 + 6 * a + 3) (nI (sn S (113 + 6 * a + 3) - min (sn S (213 + 7 * j + 2)) (min (sn S (113 + 6 * a + 3)) (9999 - sn S (113 + 6 * b + 3)))))) (113 + 6 * b + 3) (nI (sn S (113 + 6 * b + 3) + min (sn S (213 + 7 * j + 2)) (min (sn S (113 + 6 * a + 3)) (9999 - sn S (113 + 6 * b + 3)))))) := by rw [es11]; exact hLs9.wper (j := 3) (by decide) (by omega)
  have hDs11 : cwD 200 s11 (upd (upd S (113 + 6 * a + 3) (nI (sn S (113 + 6 * a + 3) - min (sn S (213 + 7 * j + 2)) (min (sn S (113 + 6 * a + 3)) (9999 - sn S (113 + 6 * b + 3)))))) (113 + 6 * b + 3) (nI (sn S (113 + 6 * b + 3) + min (sn S (213 + 7 * j + 2)) (min (sn S (113 + 6 * a + 3)) (9999 - sn S (113 + 6 * b + 3)))))) := by rw [es11]; exact hDs9.life (by decide) (by unfold noLand; omega)
  refine g_pure 5 (i' := 47) (lv' := [some (vR 6), some (vI (nI j)), some (vI (nI a)), some (vI (nI b)), some (vI (S (213 + 7 * j + 2))), some (vI (nI (min (sn S (213 + 7 * j + 2)) (min (sn S (113 + 6 * a + 3)) (9999 - sn S (113 + 6 * b + 3))))))]) (st' := [vI (nI j), vR 258, vI (nI j), vR 258]) rfl ?_
  refine g_ald rfl (g_A (a := 258) (kd := 1) (n := 8) rfl (by decide)) (by decide) (show nI j = nI j from (rfl : nI j = nI j)) (by omega) (show _ = S (213 + 7 * j + 6) from (((hLs11.mis (by omega))).trans (upd_ne (by omega))).trans (upd_ne (by omega))) ?_
  have t12 := (hI.deb (k := j) (by omega)).2.2.1
  have t12b := t12.2
  refine g_pure 2 (i' := 50) (lv' := [some (vR 6), some (vI (nI j)), some (vI (nI a)), some (vI (nI b)), some (vI (S (213 + 7 * j + 2))), some (vI (nI (min (sn S (213 + 7 * j + 2)) (min (sn S (113 + 6 * a + 3)) (9999 - sn S (113 + 6 * b + 3))))))]) (st' := [vI (nI (min (sn S (213 + 7 * j + 2)) (min (sn S (113 + 6 * a + 3)) (9999 - sn S (113 + 6 * b + 3))))), vI (S (213 + 7 * j + 2)), vI (S (213 + 7 * j + 6)), vI (nI j), vR 258]) rfl ?_
  refine gW_eq (lv' := [some (vR 6), some (vI (nI j)), some (vI (nI a)), some (vI (nI b)), some (vI (S (213 + 7 * j + 2))), some (vI (nI (min (sn S (213 + 7 * j + 2)) (min (sn S (113 + 6 * a + 3)) (9999 - sn S (113 + 6 * b + 3))))))]) (st' := [vI (nI (min (sn S (213 + 7 * j + 2)) (min (sn S (113 + 6 * a + 3)) (9999 - sn S (113 + 6 * b + 3))))), vI (nI (sn S (213 + 7 * j + 2))), vI (S (213 + 7 * j + 6)), vI (nI j), vR 258]) rfl (by rw [(show S (213 + 7 * j + 2) = nI (sn S (213 + 7 * j + 2)) from t12.1)]) rfl ?_
  refine g_pure 2 (i' := 52) (lv' := [some (vR 6), some (vI (nI j)), some (vI (nI a)), some (vI (nI b)), some (vI (S (213 + 7 * j + 2))), some (vI (nI (min (sn S (213 + 7 * j + 2)) (min (sn S (113 + 6 * a + 3)) (9999 - sn S (113 + 6 * b + 3))))))]) (st' := [vI (S (213 + 7 * j + 6) + (nI (sn S (213 + 7 * j + 2)) - nI (min (sn S (213 + 7 * j + 2)) (min (sn S (113 + 6 * a + 3)) (9999 - sn S (113 + 6 * b + 3)))))), vI (nI j), vR 258]) rfl ?_
  refine g_ast rfl (g_A (a := 258) (kd := 1) (n := 8) rfl (by decide)) (by decide) (show nI j = nI j from (rfl : nI j = nI j)) (by omega) ?_
  refine g_setv (fun s13 es13 => ?_)
  have hLs13 : cwL 250 s13 (upd (upd (upd S (113 + 6 * a + 3) (nI (sn S (113 + 6 * a + 3) - min (sn S (213 + 7 * j + 2)) (min (sn S (113 + 6 * a + 3)) (9999 - sn S (113 + 6 * b + 3)))))) (113 + 6 * b + 3) (nI (sn S (113 + 6 * b + 3) + min (sn S (213 + 7 * j + 2)) (min (sn S (113 + 6 * a + 3)) (9999 - sn S (113 + 6 * b + 3)))))) (213 + 7 * j + 6) (S (213 + 7 * j + 6) + (nI (sn S (213 + 7 * j + 2)) - nI (min (sn S (213 + 7 * j + 2)) (min (sn S (113 + 6 * a + 3)) (9999 - sn S (113 + 6 * b + 3))))))) := by rw [es13]; exact hLs11.wmis (by omega)
  have hDs13 : cwD 200 s13 (upd (upd (upd S (113 + 6 * a + 3) (nI (sn S (113 + 6 * a + 3) - min (sn S (213 + 7 * j + 2)) (min (sn S (113 + 6 * a + 3)) (9999 - sn S (113 + 6 * b + 3)))))) (113 + 6 * b + 3) (nI (sn S (113 + 6 * b + 3) + min (sn S (213 + 7 * j + 2)) (min (sn S (113 + 6 * a + 3)) (9999 - sn S (113 + 6 * b + 3)))))) (213 + 7 * j + 6) (S (213 + 7 * j + 6) + (nI (sn S (213 + 7 * j + 2)) - nI (min (sn S (213 + 7 * j + 2)) (min (sn S (113 + 6 * a + 3)) (9999 - sn S (113 + 6 * b + 3))))))) := by rw [es13]; exact hDs11.life (by decide) (by unfold noLand; omega)
  refine g_vret rfl ?_
  exact o1 s9 es9 s11 es11 s13 es13 hLs13 hDs13

theorem b_270_0 {X : Nat × (Nat → Int32)} {d : Nat} {p : Nat → Nat} {sg : Mg} {Q : am_R → Prop} {B : Nat} {S : Nat → Int32} (hI : Inv B S) (hS : sg 801 = S) {j : Nat} {a : Nat} {b : Nat} (u_j : j ≤ 7) (u_a : a ≤ 7) (u_b : b ≤ 7) (q1 : j < sn S 4) (q2 : a < sn S 1) (q3 : b < sn S 1) (q4 : a ≠ b)
    (o1 : ∀ s9 : Mg, s9 = mu sg 801 (113 + 6 * a + 3) (nI (sn S (113 + 6 * a + 3) - min (sn S (213 + 7 * j + 2)) (min (sn S (113 + 6 * a + 3)) (9999 - sn S (113 + 6 * b + 3))))) → ∀ s11 : Mg, s11 = mu s9 801 (113 + 6 * b + 3) (nI (sn S (113 + 6 * b + 3) + min (sn S (213 + 7 * j + 2)) (min (sn S (113 + 6 * a + 3)) (9999 - sn S (113 + 6 * b + 3))))) → ∀ s13 : Mg, s13 = mu s11 801 (213 + 7 * j + 6) (S (213 + 7 * j + 6) + (nI (sn S (213 + 7 * j + 2)) - nI (min (sn S (213 + 7 * j + 2)) (min (sn S (113 + 6 * a + 3)) (9999 - sn S (113 + 6 * b + 3)))))) → s13 801 = (upd (upd (upd S (113 + 6 * a + 3) (nI (sn S (113 + 6 * a + 3) - min (sn S (213 + 7 * j + 2)) (min (sn S (113 + 6 * a + 3)) (9999 - sn S (113 + 6 * b + 3)))))) (113 + 6 * b + 3) (nI (sn S (113 + 6 * b + 3) + min (sn S (213 + 7 * j + 2)) (min (sn S (113 + 6 * a + 3)) (9999 - sn S (113 + 6 * b + 3)))))) (213 + 7 * j + 6) (S (213 + 7 * j + 6) + (nI (sn S (213 + 7 * j + 2)) - nI (min (sn S (213 + 7 * j + 2)) (min (sn S (113 + 6 * a + 3)) (9999 - sn S (113 + 6 * b + 3))))))) → Q (gR0 p s13)) :
    gW X (d + 1) k_270 0 [some (vR 800), some (vI (nI j)), some (vI (nI a)), some (vI (nI b)), none] [] p sg Q := by
  have b0 := hI.b0; have b1 := hI.b1; have b2 := hI.b2; have b3 := hI.b3; have b4 := hI.b4; have b5 := hI.b5; have b6 := hI.b6; have b7 := hI.b7; have b8 := hI.b8; have b9 := hI.b9; have b14 := hI.b14
  refine g_pure 3 (i' := 3) (lv' := [some (vR 800), some (vI (nI j)), some (vI (nI a)), some (vI (nI b)), none]) (st' := [vI 2, vI (nI j), vR 800]) rfl ?_
  refine gW_eq (st' := [vI (nI 2), vI (nI j), vR 800]) rfl (by rw [(show (2 : Int32) = nI 2 from rfl)]) rfl ?_
  refine g_cV1 rfl (args := [vR 800, vI (nI j), vI (nI 2)]) (rest := []) rfl rfl rfl (s_243 (d := d) hS (by omega) (by omega)) ?_
  refine g_pure 3 (i' := 7) (lv' := [some (vR 800), some (vI (nI j)), some (vI (nI a)), some (vI (nI b)), none]) (st' := [vI 3, vI (nI a), vR 800, vI (S (213 + 7 * j + 2))]) rfl ?_
  refine gW_eq (st' := [vI (nI 3), vI (nI a), vR 800, vI (S (213 + 7 * j + 2))]) rfl (by rw [(show (3 : Int32) = nI 3 from rfl)]) rfl ?_
  refine g_cV1 rfl (args := [vR 800, vI (nI a), vI (nI 3)]) (rest := [vI (S (213 + 7 * j + 2))]) rfl rfl rfl (s_238 (d := d) hS (by omega) (by omega)) ?_
  refine g_pure 4 (i' := 12) (lv' := [some (vR 800), some (vI (nI j)), some (vI (nI a)), some (vI (nI b)), none]) (st' := [vI 3, vI (nI b), vR 800, vI 9999, vI (S (113 + 6 * a + 3)), vI (S (213 + 7 * j + 2))]) rfl ?_
  refine gW_eq (st' := [vI (nI 3), vI (nI b), vR 800, vI 9999, vI (S (113 + 6 * a + 3)), vI (S (213 + 7 * j + 2))]) rfl (by rw [(show (3 : Int32) = nI 3 from rfl)]) rfl ?_
  refine g_cV1 rfl (args := [vR 800, vI (nI b), vI (nI 3)]) (rest := [vI 9999, vI (S (113 + 6 * a + 3)), vI (S (213 + 7 * j + 2))]) rfl rfl rfl (s_238 (d := d) hS (by omega) (by omega)) ?_
  have t1 := (hI.per (k := b) (by omega)).2.1
  have t1b := t1.2
  refine gW_eq (lv' := [some (vR 800), some (vI (nI j)), some (vI (nI a)), some (vI (nI b)), none]) (st' := [vI (nI (sn S (113 + 6 * b + 3))), vI 9999, vI (S (113 + 6 * a + 3)), vI (S (213 + 7 * j + 2))]) rfl (by rw [(show S (113 + 6 * b + 3) = nI (sn S (113 + 6 * b + 3)) from t1.1)]) rfl ?_
  refine g_pure 1 (i' := 14) (lv' := [some (vR 800), some (vI (nI j)), some (vI (nI a)), some (vI (nI b)), none]) (st' := [vI (9999 - nI (sn S (113 + 6 * b + 3))), vI (S (113 + 6 * a + 3)), vI (S (213 + 7 * j + 2))]) rfl ?_
  refine gW_eq (lv' := [some (vR 800), some (vI (nI j)), some (vI (nI a)), some (vI (nI b)), none]) (st' := [vI (nI (9999 - sn S (113 + 6 * b + 3))), vI (S (113 + 6 * a + 3)), vI (S (213 + 7 * j + 2))]) rfl (by rw [(show (9999 - nI (sn S (113 + 6 * b + 3))) = nI (9999 - sn S (113 + 6 * b + 3)) from (g_sub (show (9999 : Int32) = nI 9999 from rfl) (rfl : nI (sn S (113 + 6 * b + 3)) = nI (sn S (113 + 6 * b + 3))) (by omega)))]) rfl ?_
  have t2 := (hI.per (k := a) (by omega)).2.1
  have t2b := t2.2
  refine gW_eq (st' := [vI (nI (9999 - sn S (113 + 6 * b + 3))), vI (nI (sn S (113 + 6 * a + 3))), vI (S (213 + 7 * j + 2))]) rfl (by rw [(show S (113 + 6 * a + 3) = nI (sn S (113 + 6 * a + 3)) from t2.1)]) rfl ?_
  refine g_cS1 rfl (args := [vI (nI (sn S (113 + 6 * a + 3))), vI (nI (9999 - sn S (113 + 6 * b + 3)))]) (rest := [vI (S (213 + 7 * j + 2))]) rfl rfl rfl (s_313n (d := d) (by omega) (by omega)) ?_
  have t3 := Nat.min_le_left (sn S (113 + 6 * a + 3)) (9999 - sn S (113 + 6 * b + 3))
  have t4 := Nat.min_le_right (sn S (113 + 6 * a + 3)) (9999 - sn S (113 + 6 * b + 3))
  have t5 := (hI.deb (k := j) (by omega)).2.2.1
  have t5b := t5.2
  refine gW_eq (st' := [vI (nI (min (sn S (113 + 6 * a + 3)) (9999 - sn S (113 + 6 * b + 3)))), vI (nI (sn S (213 + 7 * j + 2)))]) rfl (by rw [(show S (213 + 7 * j + 2) = nI (sn S (213 + 7 * j + 2)) from t5.1)]) rfl ?_
  refine g_cS1 rfl (args := [vI (nI (sn S (213 + 7 * j + 2))), vI (nI (min (sn S (113 + 6 * a + 3)) (9999 - sn S (113 + 6 * b + 3))))]) (rest := []) rfl rfl rfl (s_313n (d := d) (by omega) (by omega)) ?_
  have t6 := Nat.min_le_left (sn S (213 + 7 * j + 2)) (min (sn S (113 + 6 * a + 3)) (9999 - sn S (113 + 6 * b + 3)))
  have t7 := Nat.min_le_right (sn S (213 + 7 * j + 2)) (min (sn S (113 + 6 * a + 3)) (9999 - sn S (113 + 6 * b + 3)))
  refine g_pure 7 (i' := 23) (lv' := [some (vR 800), some (vI (nI j)), some (vI (nI a)), some (vI (nI b)), some (vI (nI (min (sn S (213 + 7 * j + 2)) (min (sn S (113 + 6 * a + 3)) (9999 - sn S (113 + 6 * b + 3))))))]) (st' := [vI 3, vI (nI a), vR 800, vI 3, vI (nI a), vR 800]) rfl ?_
  refine gW_eq (st' := [vI (nI 3), vI (nI a), vR 800, vI 3, vI (nI a), vR 800]) rfl (by rw [(show (3 : Int32) = nI 3 from rfl)]) rfl ?_
  refine g_cV1 rfl (args := [vR 800, vI (nI a), vI (nI 3)]) (rest := [vI 3, vI (nI a), vR 800]) rfl rfl rfl (s_238 (d := d) hS (by omega) (by omega)) ?_
  have t8 := (hI.per (k := a) (by omega)).2.1
  have t8b := t8.2
  refine g_pure 1 (i' := 25) (lv' := [some (vR 800), some (vI (nI j)), some (vI (nI a)), some (vI (nI b)), some (vI (nI (min (sn S (213 + 7 * j + 2)) (min (sn S (113 + 6 * a + 3)) (9999 - sn S (113 + 6 * b + 3))))))]) (st' := [vI (nI (min (sn S (213 + 7 * j + 2)) (min (sn S (113 + 6 * a + 3)) (9999 - sn S (113 + 6 * b + 3))))), vI (S (113 + 6 * a + 3)), vI 3, vI (nI a), vR 800]) rfl ?_
  refine gW_eq (lv' := [some (vR 800), some (vI (nI j)), some (vI (nI a)), some (vI (nI b)), some (vI (nI (min (sn S (213 + 7 * j + 2)) (min (sn S (113 + 6 * a + 3)) (9999 - sn S (113 + 6 * b + 3))))))]) (st' := [vI (nI (min (sn S (213 + 7 * j + 2)) (min (sn S (113 + 6 * a + 3)) (9999 - sn S (113 + 6 * b + 3))))), vI (nI (sn S (113 + 6 * a + 3))), vI 3, vI (nI a), vR 800]) rfl (by rw [(show S (113 + 6 * a + 3) = nI (sn S (113 + 6 * a + 3)) from t8.1)]) rfl ?_
  refine g_pure 1 (i' := 26) (lv' := [some (vR 800), some (vI (nI j)), some (vI (nI a)), some (vI (nI b)), some (vI (nI (min (sn S (213 + 7 * j + 2)) (min (sn S (113 + 6 * a + 3)) (9999 - sn S (113 + 6 * b + 3))))))]) (st' := [vI (nI (sn S (113 + 6 * a + 3)) - nI (min (sn S (213 + 7 * j + 2)) (min (sn S (113 + 6 * a + 3)) (9999 - sn S (113 + 6 * b + 3))))), vI 3, vI (nI a), vR 800]) rfl ?_
  refine gW_eq (lv' := [some (vR 800), some (vI (nI j)), some (vI (nI a)), some (vI (nI b)), some (vI (nI (min (sn S (213 + 7 * j + 2)) (min (sn S (113 + 6 * a + 3)) (9999 - sn S (113 + 6 * b + 3))))))]) (st' := [vI (nI (sn S (113 + 6 * a + 3) - min (sn S (213 + 7 * j + 2)) (min (sn S (113 + 6 * a + 3)) (9999 - sn S (113 + 6 * b + 3))))), vI 3, vI (nI a), vR 800]) rfl (by rw [(show (nI (sn S (113 + 6 * a + 3)) - nI (min (sn S (213 + 7 * j + 2)) (min (sn S (113 + 6 * a + 3)) (9999 - sn S (113 + 6 * b + 3))))) = nI (sn S (113 + 6 * a + 3) - min (sn S (213 + 7 * j + 2)) (min (sn S (113 + 6 * a + 3)) (9999 - sn S (113 + 6 * b + 3)))) from (g_sub (rfl : nI (sn S (113 + 6 * a + 3)) = nI (sn S (113 + 6 * a + 3))) (rfl : nI (min (sn S (213 + 7 * j + 2)) (min (sn S (113 + 6 * a + 3)) (9999 - sn S (113 + 6 * b + 3)))) = nI (min (sn S (213 + 7 * j + 2)) (min (sn S (113 + 6 * a + 3)) (9999 - sn S (113 + 6 * b + 3))))) (by omega)))]) rfl ?_
  refine gW_eq (st' := [vI (nI (sn S (113 + 6 * a + 3) - min (sn S (213 + 7 * j + 2)) (min (sn S (113 + 6 * a + 3)) (9999 - sn S (113 + 6 * b + 3))))), vI (nI 3), vI (nI a), vR 800]) rfl (by rw [(show (3 : Int32) = nI 3 from rfl)]) rfl ?_
  refine g_cV0 rfl (args := [vR 800, vI (nI a), vI (nI 3), vI (nI (sn S (113 + 6 * a + 3) - min (sn S (213 + 7 * j + 2)) (min (sn S (113 + 6 * a + 3)) (9999 - sn S (113 + 6 * b + 3)))))]) (rest := []) rfl rfl rfl (s_205 (d := d) (by omega) (by omega)) ?_
  refine g_setv (fun s9 es9 => ?_)
  have hSs9 : s9 801 = upd S (113 + 6 * a + 3) (nI (sn S (113 + 6 * a + 3) - min (sn S (213 + 7 * j + 2)) (min (sn S (113 + 6 * a + 3)) (9999 - sn S (113 + 6 * b + 3))))) := by rw [es9, mu_row, hS]
  refine g_pure 6 (i' := 33) (lv' := [some (vR 800), some (vI (nI j)), some (vI (nI a)), some (vI (nI b)), some (vI (nI (min (sn S (213 + 7 * j + 2)) (min (sn S (113 + 6 * a + 3)) (9999 - sn S (113 + 6 * b + 3))))))]) (st' := [vI 3, vI (nI b), vR 800, vI 3, vI (nI b), vR 800]) rfl ?_
  refine gW_eq (st' := [vI (nI 3), vI (nI b), vR 800, vI 3, vI (nI b), vR 800]) rfl (by rw [(show (3 : Int32) = nI 3 from rfl)]) rfl ?_
  refine g_cV1 rfl (args := [vR 800, vI (nI b), vI (nI 3)]) (rest := [vI 3, vI (nI b), vR 800]) rfl rfl rfl (s_238 (d := d) hSs9 (by omega) (by omega)) ?_
  refine gW_eq (st' := [vI (S (113 + 6 * b + 3)), vI 3, vI (nI b), vR 800]) rfl (by rw [show (upd S (113 + 6 * a + 3) (nI (sn S (113 + 6 * a + 3) - min (sn S (213 + 7 * j + 2)) (min (sn S (113 + 6 * a + 3)) (9999 - sn S (113 + 6 * b + 3)))))) (113 + 6 * b + 3) = S (113 + 6 * b + 3) from (show (upd S (113 + 6 * a + 3) (nI (sn S (113 + 6 * a + 3) - min (sn S (213 + 7 * j + 2)) (min (sn S (113 + 6 * a + 3)) (9999 - sn S (113 + 6 * b + 3)))))) (113 + 6 * b + 3) = S (113 + 6 * b + 3) from (rfl).trans (upd_ne (by omega)))]) rfl ?_
  have t10 := (hI.per (k := b) (by omega)).2.1
  have t10b := t10.2
  refine g_pure 2 (i' := 36) (lv' := [some (vR 800), some (vI (nI j)), some (vI (nI a)), some (vI (nI b)), some (vI (nI (min (sn S (213 + 7 * j + 2)) (min (sn S (113 + 6 * a + 3)) (9999 - sn S (113 + 6 * b + 3))))))]) (st' := [vI (S (113 + 6 * b + 3) + nI (min (sn S (213 + 7 * j + 2)) (min (sn S (113 + 6 * a + 3)) (9999 - sn S (113 + 6 * b + 3))))), vI 3, vI (nI b), vR 800]) rfl ?_
  refine gW_eq (lv' := [some (vR 800), some (vI (nI j)), some (vI (nI a)), some (vI (nI b)), some (vI (nI (min (sn S (213 + 7 * j + 2)) (min (sn S (113 + 6 * a + 3)) (9999 - sn S (113 + 6 * b + 3))))))]) (st' := [vI (nI (sn S (113 + 6 * b + 3) + min (sn S (213 + 7 * j + 2)) (min (sn S (113 + 6 * a + 3)) (9999 - sn S (113 + 6 * b + 3))))), vI 3, vI (nI b), vR 800]) rfl (by rw [(show (S (113 + 6 * b + 3) + nI (min (sn S (213 + 7 * j + 2)) (min (sn S (113 + 6 * a + 3)) (9999 - sn S (113 + 6 * b + 3))))) = nI (sn S (113 + 6 * b + 3) + min (sn S (213 + 7 * j + 2)) (min (sn S (113 + 6 * a + 3)) (9999 - sn S (113 + 6 * b + 3)))) from ((g_add t10.1 (rfl : nI (min (sn S (213 + 7 * j + 2)) (min (sn S (113 + 6 * a + 3)) (9999 - sn S (113 + 6 * b + 3)))) = nI (min (sn S (213 + 7 * j + 2)) (min (sn S (113 + 6 * a + 3)) (9999 - sn S (113 + 6 * b + 3))))))).trans (congrArg nI (by omega)))]) rfl ?_
  refine gW_eq (st' := [vI (nI (sn S (113 + 6 * b + 3) + min (sn S (213 + 7 * j + 2)) (min (sn S (113 + 6 * a + 3)) (9999 - sn S (113 + 6 * b + 3))))), vI (nI 3), vI (nI b), vR 800]) rfl (by rw [(show (3 : Int32) = nI 3 from rfl)]) rfl ?_
  refine g_cV0 rfl (args := [vR 800, vI (nI b), vI (nI 3), vI (nI (sn S (113 + 6 * b + 3) + min (sn S (213 + 7 * j + 2)) (min (sn S (113 + 6 * a + 3)) (9999 - sn S (113 + 6 * b + 3)))))]) (rest := []) rfl rfl rfl (s_205 (d := d) (by omega) (by omega)) ?_
  refine g_setv (fun s11 es11 => ?_)
  have hSs11 : s11 801 = upd (upd S (113 + 6 * a + 3) (nI (sn S (113 + 6 * a + 3) - min (sn S (213 + 7 * j + 2)) (min (sn S (113 + 6 * a + 3)) (9999 - sn S (113 + 6 * b + 3)))))) (113 + 6 * b + 3) (nI (sn S (113 + 6 * b + 3) + min (sn S (213 + 7 * j + 2)) (min (sn S (113 + 6 * a + 3)) (9999 - sn S (113 + 6 * b + 3))))) := by rw [es11, mu_row, hSs9]
  refine g_pure 10 (i' := 47) (lv' := [some (vR 800), some (vI (nI j)), some (vI (nI a)), some (vI (nI b)), some (vI (nI (min (sn S (213 + 7 * j + 2)) (min (sn S (113 + 6 * a + 3)) (9999 - sn S (113 + 6 * b + 3))))))]) (st' := [vI ((213 + (7 * nI j)) + 6), vR 801, vI ((213 + (7 * nI j)) + 6), vR 801]) rfl ?_
  refine gW_eq (lv' := [some (vR 800), some (vI (nI j)), some (vI (nI a)), some (vI (nI b)), some (vI (nI (min (sn S (213 + 7 * j + 2)) (min (sn S (113 + 6 * a + 3)) (9999 - sn S (113 + 6 * b + 3))))))]) (st' := [vI (nI (213 + 7 * j + 6)), vR 801, vI (nI (213 + 7 * j + 6)), vR 801]) rfl (by rw [(show ((213 + (7 * nI j)) + 6) = nI (213 + 7 * j + 6) from ((g_add (g_add (show (213 : Int32) = nI 213 from rfl) (g_mul (show (7 : Int32) = nI 7 from rfl) (rfl : nI j = nI j))) (show (6 : Int32) = nI 6 from rfl))).trans (congrArg nI (by omega)))]) rfl ?_
  refine g_ald rfl (g_A (a := 801) (kd := 1) (n := 2407) rfl (by decide)) (by decide) (show nI (213 + 7 * j + 6) = nI (213 + 7 * j + 6) from (rfl : nI (213 + 7 * j + 6) = nI (213 + 7 * j + 6))) (by omega) (show _ = S (213 + 7 * j + 6) from (((congrFun hSs11 (213 + 7 * j + 6))).trans (upd_ne (by omega))).trans (upd_ne (by omega))) ?_
  refine g_pure 3 (i' := 51) (lv' := [some (vR 800), some (vI (nI j)), some (vI (nI a)), some (vI (nI b)), some (vI (nI (min (sn S (213 + 7 * j + 2)) (min (sn S (113 + 6 * a + 3)) (9999 - sn S (113 + 6 * b + 3))))))]) (st' := [vI 2, vI (nI j), vR 800, vI (S (213 + 7 * j + 6)), vI (nI (213 + 7 * j + 6)), vR 801]) rfl ?_
  refine gW_eq (st' := [vI (nI 2), vI (nI j), vR 800, vI (S (213 + 7 * j + 6)), vI (nI (213 + 7 * j + 6)), vR 801]) rfl (by rw [(show (2 : Int32) = nI 2 from rfl)]) rfl ?_
  refine g_cV1 rfl (args := [vR 800, vI (nI j), vI (nI 2)]) (rest := [vI (S (213 + 7 * j + 6)), vI (nI (213 + 7 * j + 6)), vR 801]) rfl rfl rfl (s_243 (d := d) hSs11 (by omega) (by omega)) ?_
  refine gW_eq (st' := [vI (S (213 + 7 * j + 2)), vI (S (213 + 7 * j + 6)), vI (nI (213 + 7 * j + 6)), vR 801]) rfl (by rw [show (upd (upd S (113 + 6 * a + 3) (nI (sn S (113 + 6 * a + 3) - min (sn S (213 + 7 * j + 2)) (min (sn S (113 + 6 * a + 3)) (9999 - sn S (113 + 6 * b + 3)))))) (113 + 6 * b + 3) (nI (sn S (113 + 6 * b + 3) + min (sn S (213 + 7 * j + 2)) (min (sn S (113 + 6 * a + 3)) (9999 - sn S (113 + 6 * b + 3)))))) (213 + 7 * j + 2) = S (213 + 7 * j + 2) from (show (upd (upd S (113 + 6 * a + 3) (nI (sn S (113 + 6 * a + 3) - min (sn S (213 + 7 * j + 2)) (min (sn S (113 + 6 * a + 3)) (9999 - sn S (113 + 6 * b + 3)))))) (113 + 6 * b + 3) (nI (sn S (113 + 6 * b + 3) + min (sn S (213 + 7 * j + 2)) (min (sn S (113 + 6 * a + 3)) (9999 - sn S (113 + 6 * b + 3)))))) (213 + 7 * j + 2) = S (213 + 7 * j + 2) from ((rfl).trans (upd_ne (by omega))).trans (upd_ne (by omega)))]) rfl ?_
  have t12 := (hI.deb (k := j) (by omega)).2.2.1
  have t12b := t12.2
  refine g_pure 1 (i' := 53) (lv' := [some (vR 800), some (vI (nI j)), some (vI (nI a)), some (vI (nI b)), some (vI (nI (min (sn S (213 + 7 * j + 2)) (min (sn S (113 + 6 * a + 3)) (9999 - sn S (113 + 6 * b + 3))))))]) (st' := [vI (nI (min (sn S (213 + 7 * j + 2)) (min (sn S (113 + 6 * a + 3)) (9999 - sn S (113 + 6 * b + 3))))), vI (S (213 + 7 * j + 2)), vI (S (213 + 7 * j + 6)), vI (nI (213 + 7 * j + 6)), vR 801]) rfl ?_
  refine gW_eq (lv' := [some (vR 800), some (vI (nI j)), some (vI (nI a)), some (vI (nI b)), some (vI (nI (min (sn S (213 + 7 * j + 2)) (min (sn S (113 + 6 * a + 3)) (9999 - sn S (113 + 6 * b + 3))))))]) (st' := [vI (nI (min (sn S (213 + 7 * j + 2)) (min (sn S (113 + 6 * a + 3)) (9999 - sn S (113 + 6 * b + 3))))), vI (nI (sn S (213 + 7 * j + 2))), vI (S (213 + 7 * j + 6)), vI (nI (213 + 7 * j + 6)), vR 801]) rfl (by rw [(show S (213 + 7 * j + 2) = nI (sn S (213 + 7 * j + 2)) from t12.1)]) rfl ?_
  refine g_pure 2 (i' := 55) (lv' := [some (vR 800), some (vI (nI j)), some (vI (nI a)), some (vI (nI b)), some (vI (nI (min (sn S (213 + 7 * j + 2)) (min (sn S (113 + 6 * a + 3)) (9999 - sn S (113 + 6 * b + 3))))))]) (st' := [vI (S (213 + 7 * j + 6) + (nI (sn S (213 + 7 * j + 2)) - nI (min (sn S (213 + 7 * j + 2)) (min (sn S (113 + 6 * a + 3)) (9999 - sn S (113 + 6 * b + 3)))))), vI (nI (213 + 7 * j + 6)), vR 801]) rfl ?_
  refine g_ast rfl (g_A (a := 801) (kd := 1) (n := 2407) rfl (by decide)) (by decide) (show nI (213 + 7 * j + 6) = nI (213 + 7 * j + 6) from (rfl : nI (213 + 7 * j + 6) = nI (213 + 7 * j + 6))) (by omega) ?_
  refine g_setv (fun s13 es13 => ?_)
  have hSs13 : s13 801 = upd (upd (upd S (113 + 6 * a + 3) (nI (sn S (113 + 6 * a + 3) - min (sn S (213 + 7 * j + 2)) (min (sn S (113 + 6 * a + 3)) (9999 - sn S (113 + 6 * b + 3)))))) (113 + 6 * b + 3) (nI (sn S (113 + 6 * b + 3) + min (sn S (213 + 7 * j + 2)) (min (sn S (113 + 6 * a + 3)) (9999 - sn S (113 + 6 * b + 3)))))) (213 + 7 * j + 6) (S (213 + 7 * j + 6) + (nI (sn S (213 + 7 * j + 2)) - nI (min (sn S (213 + 7 * j + 2)) (min (sn S (113 + 6 * a + 3)) (9999 - sn S (113 + 6 * b + 3)))))) := by rw [es13, mu_row, hSs11]
  refine g_vret rfl ?_
  exact o1 s9 es9 s11 es11 s13 es13 hSs13

/-- how much of a debt can go -/
def pdN (S : Nat → Int32) (j a b : Nat) : Nat := min (sn S (213 + 7 * j + 2)) (min (sn S (113 + 6 * a + 3)) (9999 - sn S (113 + 6 * b + 3)))
def pyS (S : Nat → Int32) (j a b : Nat) : Nat → Int32 := upd (upd (upd S (113 + 6 * a + 3) (nI (sn S (113 + 6 * a + 3) - pdN S j a b))) (113 + 6 * b + 3) (nI (sn S (113 + 6 * b + 3) + pdN S j a b))) (213 + 7 * j + 6) (S (213 + 7 * j + 6) + (nI (sn S (213 + 7 * j + 2)) - nI (pdN S j a b)))
theorem pyS_ne {S : Nat → Int32} {j a b i : Nat} (h1 : i ≠ 113 + 6 * a + 3) (h2 : i ≠ 113 + 6 * b + 3) (h3 : i ≠ 213 + 7 * j + 6) : pyS S j a b i = S i := by
  unfold pyS
  rw [upd_ne h3, upd_ne h2, upd_ne h1]
theorem Inv.pyI {B : Nat} {S : Nat → Int32} (hI : Inv B S) {j a b : Nat} (hj : j < 8) (ha : a < sn S 1) (hb : b < sn S 1) : Inv B (pyS S j a b) := by
  have h1 := (hI.per ha).2.1.2
  have h2 := (hI.per hb).2.1.2
  have m1 : pdN S j a b ≤ 9999 - sn S (113 + 6 * b + 3) := Nat.le_trans (Nat.min_le_right _ _) (Nat.min_le_right _ _)
  unfold pyS
  refine ((hI.per1 ha (Or.inl ⟨rfl, by omega⟩)).per1 ?_ (Or.inl ⟨rfl, by omega⟩)).free ?_
  · have b1 := hI.b1
    rw [sn_upd (by omega)]; exact hb
  · unfold freeI; omega
theorem s_34 {X : Nat × (Nat → Int32)} {d : Nat} {p : Nat → Nat} {sg : Mg} {B : Nat} {S : Nat → Int32} (hI : Inv B S) (hL : cwL 250 sg S) (hD : cwD 200 sg S) {j a b : Nat} (hj : j < sn S 4) (ha : a < sn S 1) (hb : b < sn S 1) (hab : a ≠ b) : gF X (d + 2) 34 [vR 6, vI (nI j), vI (nI a), vI (nI b)] p sg (fun r => ∃ s, (DF sg s ∧ s 6 = sg 6 ∧ CS s (pyS S j a b)) ∧ r = gR0 p s) := by
  have b1 := hI.b1; have b4 := hI.b4
  refine g_in (cd := k_34) (nL := 6) (rc := 3) rfl (g_A (a := 6) (kd := 0) (n := 2) rfl (by decide)) (g_c1 rfl) (b_34_0 hI hL hD (by omega) (by omega) (by omega) hj ha hb hab (fun s9 e9 s11 e11 s13 e13 h1 h2 => ⟨s13, ⟨fun c _ _ _ _ hc => ?_, ?_, h1, h2⟩, rfl⟩))
  · rw [e13, mu_ne (by omega), e11, mu_ne (by omega), e9, mu_ne (by omega)]
  · rw [e13, mu_ne (by decide), e11, mu_ne (by decide), e9, mu_ne (by decide)]
theorem s_270 {X : Nat × (Nat → Int32)} {d : Nat} {p : Nat → Nat} {sg : Mg} {B : Nat} {S : Nat → Int32} (hI : Inv B S) (hS : sg 801 = S) {j a b : Nat} (hj : j < sn S 4) (ha : a < sn S 1) (hb : b < sn S 1) (hab : a ≠ b) : gF X (d + 2) 270 [vR 800, vI (nI j), vI (nI a), vI (nI b)] p sg (fun r => r = gR0 p (va_up sg 801 (pyS S j a b))) := by
  have b1 := hI.b1; have b4 := hI.b4
  refine g_in (cd := k_270) (nL := 5) (rc := 13) rfl (g_A (a := 800) (kd := 0) (n := 12) rfl (by decide)) (g_c1 rfl) (b_270_0 hI hS (by omega) (by omega) (by omega) hj ha hb hab (fun s9 e9 s11 e11 s13 e13 h1 => ?_))
  have e : s13 = va_up sg 801 (s13 801) := by
    funext c
    by_cases hc : c = 801
    · subst hc; rw [va_up_self]
    · rw [va_up_ne _ _ hc, e13, mu_ne hc, e11, mu_ne hc, e9, mu_ne hc]
  rw [e, h1]
  rfl

theorem s_270' {X : Nat × (Nat → Int32)} {d : Nat} {p : Nat → Nat} {sg : Mg} {B : Nat} {S : Nat → Int32} (hI : Inv B S) (hS : sg 801 = S) {j a b : Nat} (hj : j < sn S 4) (ha : a < sn S 1) (hb : b < sn S 1) (hab : a ≠ b) : gF X (d + 2) 270 [vR 800, vI (nI j), vI (nI a), vI (nI b)] p sg (fun r => ∃ s, s = va_up sg 801 (pyS S j a b) ∧ r = gR0 p s) :=
  gF_mono (s_270 hI hS hj ha hb hab) (fun r hr => ⟨_, rfl, hr⟩)

theorem b_33_0 {X : Nat × (Nat → Int32)} {d : Nat} {p : Nat → Nat} {sg : Mg} {Q : am_R → Prop} {B : Nat} {S : Nat → Int32} (hI : Inv B S) (hL : cwL 250 sg S) (hD : cwD 200 sg S) {j : Nat} (u_j : j ≤ 7) (q1 : j < sn S 4)
    (o1 : (¬ sn S (17 + 16 * (sn S (213 + 7 * j + 3)) + ((sn S 8) % sn S 9)) = sn S (213 + 7 * j + 4)) → (¬ sn S (17 + 16 * (sn S (213 + 7 * j + 3)) + ((sn S 8) % sn S 9)) = sn S (213 + 7 * j + 5)) → Q (gR0 p sg))
    (o2 : (¬ sn S (17 + 16 * (sn S (213 + 7 * j + 3)) + ((sn S 8) % sn S 9)) = sn S (213 + 7 * j + 4)) → (sn S (17 + 16 * (sn S (213 + 7 * j + 3)) + ((sn S 8) % sn S 9)) = sn S (213 + 7 * j + 5)) → ∀ s11 : Mg, (DF sg s11 ∧ s11 6 = sg 6 ∧ CS s11 (pyS S j (sn S (213 + 7 * j)) (sn S (213 + 7 * j + 1)))) → Q (gR0 p s11))
    (o3 : (sn S (17 + 16 * (sn S (213 + 7 * j + 3)) + ((sn S 8) % sn S 9)) = sn S (213 + 7 * j + 4)) → ∀ s14 : Mg, (DF sg s14 ∧ s14 6 = sg 6 ∧ CS s14 (pyS S j (sn S (213 + 7 * j + 1)) (sn S (213 + 7 * j)))) → Q (gR0 p s14)) :
    gW X (d + 3) k_33 0 [some (vR 6), some (vI (nI j)), none, none] [] p sg Q := by
  have b0 := hI.b0; have b1 := hI.b1; have b2 := hI.b2; have b3 := hI.b3; have b4 := hI.b4; have b5 := hI.b5; have b6 := hI.b6; have b7 := hI.b7; have b8 := hI.b8; have b9 := hI.b9; have b14 := hI.b14
  refine g_pure 4 (i' := 4) (lv' := [some (vR 6), some (vI (nI j)), none, none]) (st' := [vI (nI j), vR 206]) rfl ?_
  refine g_aald rfl (Or.inl rfl) (g_A (a := 206) (kd := 5) (n := 8) rfl (by decide)) (by decide) (show nI j = nI j from (rfl : nI j = nI j)) (by omega) (gR_206 (by omega)) ?_
  refine g_pure 5 (i' := 10) (lv' := [some (vR 6), some (vI (nI j)), some (vR (234 + j)), none]) (st' := [vI 3, vR (234 + j), vR 200]) rfl ?_
  refine g_ald rfl (gA_206 (by omega)) (by decide) (show 3 = nI 3 from (show (3 : Int32) = nI 3 from rfl)) (by decide) (show _ = S (213 + 7 * j + 3) from (hD.deb 3 (by omega) (by decide))) ?_
  refine g_pure 2 (i' := 13) (lv' := [some (vR 6), some (vI (nI j)), some (vR (234 + j)), none]) (st' := [vR 250, vI (S (213 + 7 * j + 3)), vR 200]) rfl ?_
  refine g_getI rfl (g_A (a := 250) (kd := 0) (n := 6) rfl (by decide)) (show _ = S 8 from hL.f12) ?_
  have t1 := (hI.deb (k := j) (by omega)).2.2.2.1
  have t1b := t1.2
  refine gW_eq (st' := [vI (nI (sn S 8)), vI (nI (sn S (213 + 7 * j + 3))), vR 200]) rfl (by rw [(show S (213 + 7 * j + 3) = nI (sn S (213 + 7 * j + 3)) from t1.1), (show S 8 = nI (sn S 8) from (hI.c8))]) rfl ?_
  refine g_cV1 rfl (args := [vR 200, vI (nI (sn S (213 + 7 * j + 3))), vI (nI (sn S 8))]) (rest := []) rfl rfl rfl (s_110 (d := d) hI hL hD (by omega) (by omega)) ?_
  have t2 := Nat.mod_lt ((sn S 8)) (y := sn S 9) (by omega)
  refine g_pure 4 (i' := 19) (lv' := [some (vR 6), some (vI (nI j)), some (vR (234 + j)), some (vI (S (17 + 16 * (sn S (213 + 7 * j + 3)) + ((sn S 8) % sn S 9))))]) (st' := [vI 4, vR (234 + j), vI (S (17 + 16 * (sn S (213 + 7 * j + 3)) + ((sn S 8) % sn S 9)))]) rfl ?_
  refine g_ald rfl (gA_206 (by omega)) (by decide) (show 4 = nI 4 from (show (4 : Int32) = nI 4 from rfl)) (by decide) (show _ = S (213 + 7 * j + 4) from (hD.deb 4 (by omega) (by decide))) ?_
  have t3 := hI.tbb (v := sn S (213 + 7 * j + 3)) (q := (sn S 8) % sn S 9) (by omega) (by omega)
  have t4 := (hI.deb (k := j) (by omega)).2.2.2.2.1
  have t4b := t4.2
  refine g_if2 (i' := 31) (P := ¬ sn S (17 + 16 * (sn S (213 + 7 * j + 3)) + ((sn S 8) % sn S 9)) = sn S (213 + 7 * j + 4)) rfl rfl (g_neN (show S (17 + 16 * (sn S (213 + 7 * j + 3)) + ((sn S 8) % sn S 9)) = nI (sn S (17 + 16 * (sn S (213 + 7 * j + 3)) + ((sn S 8) % sn S 9))) from (hI.tb (by omega) (by omega))) (show S (213 + 7 * j + 4) = nI (sn S (213 + 7 * j + 4)) from t4.1) (by omega) (by omega)) (fun h5 => ?_) (fun h5 => ?_)
  · refine g_pure 3 (i' := 34) (lv' := [some (vR 6), some (vI (nI j)), some (vR (234 + j)), some (vI (S (17 + 16 * (sn S (213 + 7 * j + 3)) + ((sn S 8) % sn S 9))))]) (st' := [vI 5, vR (234 + j), vI (S (17 + 16 * (sn S (213 + 7 * j + 3)) + ((sn S 8) % sn S 9)))]) rfl ?_
    refine g_ald rfl (gA_206 (by omega)) (by decide) (show 5 = nI 5 from (show (5 : Int32) = nI 5 from rfl)) (by decide) (show _ = S (213 + 7 * j + 5) from (hD.deb 5 (by omega) (by decide))) ?_
    have t6 := hI.tbb (v := sn S (213 + 7 * j + 3)) (q := (sn S 8) % sn S 9) (by omega) (by omega)
    have t7 := (hI.deb (k := j) (by omega)).2.2.2.2.2.1
    have t7b := t7.2
    refine g_if2 (i' := 45) (P := ¬ sn S (17 + 16 * (sn S (213 + 7 * j + 3)) + ((sn S 8) % sn S 9)) = sn S (213 + 7 * j + 5)) rfl rfl (g_neN (show S (17 + 16 * (sn S (213 + 7 * j + 3)) + ((sn S 8) % sn S 9)) = nI (sn S (17 + 16 * (sn S (213 + 7 * j + 3)) + ((sn S 8) % sn S 9))) from (hI.tb (by omega) (by omega))) (show S (213 + 7 * j + 5) = nI (sn S (213 + 7 * j + 5)) from t7.1) (by omega) (by omega)) (fun h8 => ?_) (fun h8 => ?_)
    · refine g_vret rfl ?_
      exact o1 h5 h8
    · have h8 := Classical.not_not.mp h8
      refine g_pure 4 (i' := 40) (lv' := [some (vR 6), some (vI (nI j)), some (vR (234 + j)), some (vI (S (17 + 16 * (sn S (213 + 7 * j + 3)) + ((sn S 8) % sn S 9))))]) (st' := [vI 0, vR (234 + j), vI (nI j), vR 6]) rfl ?_
      refine g_ald rfl (gA_206 (by omega)) (by decide) (show 0 = nI 0 from (show (0 : Int32) = nI 0 from rfl)) (by decide) (show _ = S (213 + 7 * j) from (hD.deb 0 (by omega) (by decide))) ?_
      refine g_pure 2 (i' := 43) (lv' := [some (vR 6), some (vI (nI j)), some (vR (234 + j)), some (vI (S (17 + 16 * (sn S (213 + 7 * j + 3)) + ((sn S 8) % sn S 9))))]) (st' := [vI 1, vR (234 + j), vI (S (213 + 7 * j)), vI (nI j), vR 6]) rfl ?_
      refine g_ald rfl (gA_206 (by omega)) (by decide) (show 1 = nI 1 from (show (1 : Int32) = nI 1 from rfl)) (by decide) (show _ = S (213 + 7 * j + 1) from (hD.deb 1 (by omega) (by decide))) ?_
      have t9 := (hI.deb (k := j) (by omega)).1
      have t9b := t9.2
      have t10 := (hI.deb (k := j) (by omega)).2.1
      have t10b := t10.2
      refine gW_eq (st' := [vI (nI (sn S (213 + 7 * j + 1))), vI (nI (sn S (213 + 7 * j))), vI (nI j), vR 6]) rfl (by rw [(show S (213 + 7 * j) = nI (sn S (213 + 7 * j)) from t9.1), (show S (213 + 7 * j + 1) = nI (sn S (213 + 7 * j + 1)) from t10.1)]) rfl ?_
      refine g_cV0E rfl (args := [vR 6, vI (nI j), vI (nI (sn S (213 + 7 * j))), vI (nI (sn S (213 + 7 * j + 1)))]) (rest := []) rfl rfl rfl (s_34 (d := d + 1) hI hL hD (by omega) (by omega) (by omega) (by have h9 := (hI.deb (k := j) (by omega)).2.2.2.2.2.2.2.1; omega)) (fun s11 es11 => ?_)
      refine g_vret rfl ?_
      exact o2 h5 h8 s11 es11
  · have h5 := Classical.not_not.mp h5
    refine g_pure 4 (i' := 25) (lv' := [some (vR 6), some (vI (nI j)), some (vR (234 + j)), some (vI (S (17 + 16 * (sn S (213 + 7 * j + 3)) + ((sn S 8) % sn S 9))))]) (st' := [vI 1, vR (234 + j), vI (nI j), vR 6]) rfl ?_
    refine g_ald rfl (gA_206 (by omega)) (by decide) (show 1 = nI 1 from (show (1 : Int32) = nI 1 from rfl)) (by decide) (show _ = S (213 + 7 * j + 1) from (hD.deb 1 (by omega) (by decide))) ?_
    refine g_pure 2 (i' := 28) (lv' := [some (vR 6), some (vI (nI j)), some (vR (234 + j)), some (vI (S (17 + 16 * (sn S (213 + 7 * j + 3)) + ((sn S 8) % sn S 9))))]) (st' := [vI 0, vR (234 + j), vI (S (213 + 7 * j + 1)), vI (nI j), vR 6]) rfl ?_
    refine g_ald rfl (gA_206 (by omega)) (by decide) (show 0 = nI 0 from (show (0 : Int32) = nI 0 from rfl)) (by decide) (show _ = S (213 + 7 * j) from (hD.deb 0 (by omega) (by decide))) ?_
    have t12 := (hI.deb (k := j) (by omega)).2.1
    have t12b := t12.2
    have t13 := (hI.deb (k := j) (by omega)).1
    have t13b := t13.2
    refine gW_eq (st' := [vI (nI (sn S (213 + 7 * j))), vI (nI (sn S (213 + 7 * j + 1))), vI (nI j), vR 6]) rfl (by rw [(show S (213 + 7 * j + 1) = nI (sn S (213 + 7 * j + 1)) from t12.1), (show S (213 + 7 * j) = nI (sn S (213 + 7 * j)) from t13.1)]) rfl ?_
    refine g_cV0E rfl (args := [vR 6, vI (nI j), vI (nI (sn S (213 + 7 * j + 1))), vI (nI (sn S (213 + 7 * j)))]) (rest := []) rfl rfl rfl (s_34 (d := d + 1) hI hL hD (by omega) (by omega) (by omega) (by have h9 := (hI.deb (k := j) (by omega)).2.2.2.2.2.2.2.1; omega)) (fun s14 es14 => ?_)
    refine g_pure 1 (i' := 45) (lv' := [some (vR 6), some (vI (nI j)), some (vR (234 + j)), some (vI (S (17 + 16 * (sn S (213 + 7 * j + 3)) + ((sn S 8) % sn S 9))))]) (st' := []) rfl ?_
    refine g_vret rfl ?_
    exact o3 h5 s14 es14

theorem b_269_0 {X : Nat × (Nat → Int32)} {d : Nat} {p : Nat → Nat} {sg : Mg} {Q : am_R → Prop} {B : Nat} {S : Nat → Int32} (hI : Inv B S) (hS : sg 801 = S) {j : Nat} (u_j : j ≤ 7) (q1 : j < sn S 4)
    (o1 : (¬ sn S (17 + 16 * (sn S (213 + 7 * j + 3)) + ((sn S 8) % (sn S 9))) = sn S (213 + 7 * j + 4)) → gW X (d + 2) k_269 26 [some (vR 800), some (vI (nI j)), some (vI (S (17 + 16 * (sn S (213 + 7 * j + 3)) + ((sn S 8) % (sn S 9)))))] [] p sg Q)
    (o2 : (sn S (17 + 16 * (sn S (213 + 7 * j + 3)) + ((sn S 8) % (sn S 9))) = sn S (213 + 7 * j + 4)) → ∀ s8 : Mg, (s8 = va_up sg 801 (pyS S j (sn S (213 + 7 * j + 1)) (sn S (213 + 7 * j)))) → gW X (d + 2) k_269 26 [some (vR 800), some (vI (nI j)), some (vI (S (17 + 16 * (sn S (213 + 7 * j + 3)) + ((sn S 8) % (sn S 9)))))] [] p s8 Q) :
    gW X (d + 2) k_269 0 [some (vR 800), some (vI (nI j)), none] [] p sg Q := by
  have b0 := hI.b0; have b1 := hI.b1; have b2 := hI.b2; have b3 := hI.b3; have b4 := hI.b4; have b5 := hI.b5; have b6 := hI.b6; have b7 := hI.b7; have b8 := hI.b8; have b9 := hI.b9; have b14 := hI.b14
  refine g_pure 4 (i' := 4) (lv' := [some (vR 800), some (vI (nI j)), none]) (st' := [vI 3, vI (nI j), vR 800, vR 800]) rfl ?_
  refine gW_eq (st' := [vI (nI 3), vI (nI j), vR 800, vR 800]) rfl (by rw [(show (3 : Int32) = nI 3 from rfl)]) rfl ?_
  refine g_cV1 rfl (args := [vR 800, vI (nI j), vI (nI 3)]) (rest := [vR 800]) rfl rfl rfl (s_243 (d := d + 1) hS (by omega) (by omega)) ?_
  refine g_pure 1 (i' := 6) (lv' := [some (vR 800), some (vI (nI j)), none]) (st' := [vR 800, vI (S (213 + 7 * j + 3)), vR 800]) rfl ?_
  refine g_cV1 rfl (args := [vR 800]) (rest := [vI (S (213 + 7 * j + 3)), vR 800]) rfl rfl rfl (s_248 (d := d + 1) hS) ?_
  have t1 := (hI.deb (k := j) (by omega)).2.2.2.1
  have t1b := t1.2
  refine gW_eq (st' := [vI (nI (sn S 8)), vI (nI (sn S (213 + 7 * j + 3))), vR 800]) rfl (by rw [(show S (213 + 7 * j + 3) = nI (sn S (213 + 7 * j + 3)) from t1.1), (show S 8 = nI (sn S 8) from (hI.c8))]) rfl ?_
  refine g_cV1 rfl (args := [vR 800, vI (nI (sn S (213 + 7 * j + 3))), vI (nI (sn S 8))]) (rest := []) rfl rfl rfl (s_232 (d := d) hI hS (by omega) (by omega)) ?_
  have t2 := Nat.mod_lt ((sn S 8)) (y := sn S 9) (by omega)
  refine g_pure 5 (i' := 13) (lv' := [some (vR 800), some (vI (nI j)), some (vI (S (17 + 16 * (sn S (213 + 7 * j + 3)) + ((sn S 8) % (sn S 9)))))]) (st' := [vI 4, vI (nI j), vR 800, vI (S (17 + 16 * (sn S (213 + 7 * j + 3)) + ((sn S 8) % (sn S 9))))]) rfl ?_
  refine gW_eq (st' := [vI (nI 4), vI (nI j), vR 800, vI (S (17 + 16 * (sn S (213 + 7 * j + 3)) + ((sn S 8) % (sn S 9))))]) rfl (by rw [(show (4 : Int32) = nI 4 from rfl)]) rfl ?_
  refine g_cV1 rfl (args := [vR 800, vI (nI j), vI (nI 4)]) (rest := [vI (S (17 + 16 * (sn S (213 + 7 * j + 3)) + ((sn S 8) % (sn S 9))))]) rfl rfl rfl (s_243 (d := d + 1) hS (by omega) (by omega)) ?_
  have t3 := hI.tbb (v := sn S (213 + 7 * j + 3)) (q := ((sn S 8) % (sn S 9))) (by omega) (by omega)
  have t4 := (hI.deb (k := j) (by omega)).2.2.2.2.1
  have t4b := t4.2
  refine g_if2 (i' := 26) (P := ¬ sn S (17 + 16 * (sn S (213 + 7 * j + 3)) + ((sn S 8) % (sn S 9))) = sn S (213 + 7 * j + 4)) rfl rfl (g_neN (show S (17 + 16 * (sn S (213 + 7 * j + 3)) + ((sn S 8) % (sn S 9))) = nI (sn S (17 + 16 * (sn S (213 + 7 * j + 3)) + ((sn S 8) % (sn S 9)))) from (hI.tb (by omega) (by omega))) (show S (213 + 7 * j + 4) = nI (sn S (213 + 7 * j + 4)) from t4.1) (by omega) (by omega)) (fun h5 => ?_) (fun h5 => ?_)
  · exact o1 h5
  · have h5 := Classical.not_not.mp h5
    refine g_pure 5 (i' := 20) (lv' := [some (vR 800), some (vI (nI j)), some (vI (S (17 + 16 * (sn S (213 + 7 * j + 3)) + ((sn S 8) % (sn S 9)))))]) (st' := [vI 1, vI (nI j), vR 800, vI (nI j), vR 800]) rfl ?_
    refine gW_eq (st' := [vI (nI 1), vI (nI j), vR 800, vI (nI j), vR 800]) rfl (by rw [(show (1 : Int32) = nI 1 from rfl)]) rfl ?_
    refine g_cV1 rfl (args := [vR 800, vI (nI j), vI (nI 1)]) (rest := [vI (nI j), vR 800]) rfl rfl rfl (s_243 (d := d + 1) hS (by omega) (by omega)) ?_
    refine g_pure 3 (i' := 24) (lv' := [some (vR 800), some (vI (nI j)), some (vI (S (17 + 16 * (sn S (213 + 7 * j + 3)) + ((sn S 8) % (sn S 9)))))]) (st' := [vI 0, vI (nI j), vR 800, vI (S (213 + 7 * j + 1)), vI (nI j), vR 800]) rfl ?_
    refine gW_eq (st' := [vI (nI 0), vI (nI j), vR 800, vI (S (213 + 7 * j + 1)), vI (nI j), vR 800]) rfl (by rw [(show (0 : Int32) = nI 0 from rfl)]) rfl ?_
    refine g_cV1 rfl (args := [vR 800, vI (nI j), vI (nI 0)]) (rest := [vI (S (213 + 7 * j + 1)), vI (nI j), vR 800]) rfl rfl rfl (s_243 (d := d + 1) hS (by omega) (by omega)) ?_
    refine gW_eq (st' := [vI (S (213 + 7 * j)), vI (S (213 + 7 * j + 1)), vI (nI j), vR 800]) rfl (by rw [show S (213 + 7 * j + 0) = S (213 + 7 * j) from congrArg S (by omega)]) rfl ?_
    have t6 := (hI.deb (k := j) (by omega)).2.1
    have t6b := t6.2
    have t7 := (hI.deb (k := j) (by omega)).1
    have t7b := t7.2
    refine gW_eq (st' := [vI (nI (sn S (213 + 7 * j))), vI (nI (sn S (213 + 7 * j + 1))), vI (nI j), vR 800]) rfl (by rw [(show S (213 + 7 * j + 1) = nI (sn S (213 + 7 * j + 1)) from t6.1), (show S (213 + 7 * j) = nI (sn S (213 + 7 * j)) from t7.1)]) rfl ?_
    refine g_cV0E rfl (args := [vR 800, vI (nI j), vI (nI (sn S (213 + 7 * j + 1))), vI (nI (sn S (213 + 7 * j)))]) (rest := []) rfl rfl rfl (s_270' (d := d) hI hS (by omega) (by omega) (by omega) (by have h9 := (hI.deb (k := j) (by omega)).2.2.2.2.2.2.2.1; omega)) (fun s8 es8 => ?_)
    exact o2 h5 s8 es8

theorem b_269_26 {X : Nat × (Nat → Int32)} {d : Nat} {p : Nat → Nat} {sg : Mg} {Q : am_R → Prop} {B : Nat} {S : Nat → Int32} (hI : Inv B S) (hS : sg 801 = S) {j : Nat} {y : Nat} (u_j : j ≤ 7) (u_y : y ≤ 15) (q1 : j < sn S 4)
    (o1 : (¬ y = sn S (213 + 7 * j + 5)) → Q (gR0 p sg))
    (o2 : (y = sn S (213 + 7 * j + 5)) → ∀ s5 : Mg, (s5 = va_up sg 801 (pyS S j (sn S (213 + 7 * j)) (sn S (213 + 7 * j + 1)))) → Q (gR0 p s5)) :
    gW X (d + 2) k_269 26 [some (vR 800), some (vI (nI j)), some (vI (nI y))] [] p sg Q := by
  have b0 := hI.b0; have b1 := hI.b1; have b2 := hI.b2; have b3 := hI.b3; have b4 := hI.b4; have b5 := hI.b5; have b6 := hI.b6; have b7 := hI.b7; have b8 := hI.b8; have b9 := hI.b9; have b14 := hI.b14
  refine g_pure 4 (i' := 30) (lv' := [some (vR 800), some (vI (nI j)), some (vI (nI y))]) (st' := [vI 5, vI (nI j), vR 800, vI (nI y)]) rfl ?_
  refine gW_eq (st' := [vI (nI 5), vI (nI j), vR 800, vI (nI y)]) rfl (by rw [(show (5 : Int32) = nI 5 from rfl)]) rfl ?_
  refine g_cV1 rfl (args := [vR 800, vI (nI j), vI (nI 5)]) (rest := [vI (nI y)]) rfl rfl rfl (s_243 (d := d + 1) hS (by omega) (by omega)) ?_
  have t1 := (hI.deb (k := j) (by omega)).2.2.2.2.2.1
  have t1b := t1.2
  refine g_if2 (i' := 43) (P := ¬ y = sn S (213 + 7 * j + 5)) rfl rfl (g_neN (show nI y = nI y from (rfl : nI y = nI y)) (show S (213 + 7 * j + 5) = nI (sn S (213 + 7 * j + 5)) from t1.1) (by omega) (by omega)) (fun h2 => ?_) (fun h2 => ?_)
  · refine g_vret rfl ?_
    exact o1 h2
  · have h2 := Classical.not_not.mp h2
    refine g_pure 5 (i' := 37) (lv' := [some (vR 800), some (vI (nI j)), some (vI (nI y))]) (st' := [vI 0, vI (nI j), vR 800, vI (nI j), vR 800]) rfl ?_
    refine gW_eq (st' := [vI (nI 0), vI (nI j), vR 800, vI (nI j), vR 800]) rfl (by rw [(show (0 : Int32) = nI 0 from rfl)]) rfl ?_
    refine g_cV1 rfl (args := [vR 800, vI (nI j), vI (nI 0)]) (rest := [vI (nI j), vR 800]) rfl rfl rfl (s_243 (d := d + 1) hS (by omega) (by omega)) ?_
    refine gW_eq (st' := [vI (S (213 + 7 * j)), vI (nI j), vR 800]) rfl (by rw [show S (213 + 7 * j + 0) = S (213 + 7 * j) from congrArg S (by omega)]) rfl ?_
    refine g_pure 3 (i' := 41) (lv' := [some (vR 800), some (vI (nI j)), some (vI (nI y))]) (st' := [vI 1, vI (nI j), vR 800, vI (S (213 + 7 * j)), vI (nI j), vR 800]) rfl ?_
    refine gW_eq (st' := [vI (nI 1), vI (nI j), vR 800, vI (S (213 + 7 * j)), vI (nI j), vR 800]) rfl (by rw [(show (1 : Int32) = nI 1 from rfl)]) rfl ?_
    refine g_cV1 rfl (args := [vR 800, vI (nI j), vI (nI 1)]) (rest := [vI (S (213 + 7 * j)), vI (nI j), vR 800]) rfl rfl rfl (s_243 (d := d + 1) hS (by omega) (by omega)) ?_
    have t3 := (hI.deb (k := j) (by omega)).1
    have t3b := t3.2
    have t4 := (hI.deb (k := j) (by omega)).2.1
    have t4b := t4.2
    refine gW_eq (st' := [vI (nI (sn S (213 + 7 * j + 1))), vI (nI (sn S (213 + 7 * j))), vI (nI j), vR 800]) rfl (by rw [(show S (213 + 7 * j) = nI (sn S (213 + 7 * j)) from t3.1), (show S (213 + 7 * j + 1) = nI (sn S (213 + 7 * j + 1)) from t4.1)]) rfl ?_
    refine g_cV0E rfl (args := [vR 800, vI (nI j), vI (nI (sn S (213 + 7 * j))), vI (nI (sn S (213 + 7 * j + 1)))]) (rest := []) rfl rfl rfl (s_270' (d := d) hI hS (by omega) (by omega) (by omega) (by have h9 := (hI.deb (k := j) (by omega)).2.2.2.2.2.2.2.1; omega)) (fun s5 es5 => ?_)
    refine g_vret rfl ?_
    exact o2 h2 s5 es5

/-- a debt is settled -/
def stD (S : Nat → Int32) (j : Nat) : Nat → Int32 := if dyS S (sn S (213 + 7 * j + 3)) = sn S (213 + 7 * j + 4) then pyS S j (sn S (213 + 7 * j + 1)) (sn S (213 + 7 * j)) else if dyS S (sn S (213 + 7 * j + 3)) = sn S (213 + 7 * j + 5) then pyS S j (sn S (213 + 7 * j)) (sn S (213 + 7 * j + 1)) else S
theorem Inv.stI {B : Nat} {S : Nat → Int32} (hI : Inv B S) {j : Nat} (hj : j < sn S 4) : Inv B (stD S j) := by
  have b4 := hI.b4
  have h1 := (hI.deb hj).1.2
  have h2 := (hI.deb hj).2.1.2
  unfold stD
  split
  · exact hI.pyI (by omega) h2 h1
  · split
    · exact hI.pyI (by omega) h1 h2
    · exact hI
theorem s_33 {X : Nat × (Nat → Int32)} {d : Nat} {p : Nat → Nat} {sg : Mg} {B : Nat} {S : Nat → Int32} (hI : Inv B S) (hL : cwL 250 sg S) (hD : cwD 200 sg S) {j : Nat} (hj : j < sn S 4) : gF X (d + 4) 33 [vR 6, vI (nI j)] p sg (fun r => ∃ s, (DF sg s ∧ s 6 = sg 6 ∧ CS s (stD S j)) ∧ r = gR0 p s) := by
  have b4 := hI.b4
  refine g_in (cd := k_33) (nL := 4) (rc := 3) rfl (g_A (a := 6) (kd := 0) (n := 2) rfl (by decide)) (g_c1 rfl) (b_33_0 hI hL hD (by omega) hj (fun h1 h2 => ?_) (fun h1 h2 s11 h3 => ?_) (fun h1 s14 h3 => ?_))
  · refine ⟨sg, ⟨DF.rf _, rfl, ?_⟩, rfl⟩
    unfold stD dyS
    rw [if_neg h1, if_neg h2]
    exact ⟨hL, hD⟩
  · refine ⟨s11, ?_, rfl⟩
    unfold stD dyS
    rw [if_neg h1, if_pos h2]
    exact h3
  · refine ⟨s14, ?_, rfl⟩
    unfold stD dyS
    rw [if_pos h1]
    exact h3
theorem s_269 {X : Nat × (Nat → Int32)} {d : Nat} {p : Nat → Nat} {sg : Mg} {B : Nat} {S : Nat → Int32} (hI : Inv B S) (hS : sg 801 = S) {j : Nat} (hj : j < sn S 4) : gF X (d + 3) 269 [vR 800, vI (nI j)] p sg (fun r => r = gR0 p (va_up sg 801 (stD S j))) := by
  have b0 := hI.b0; have b1 := hI.b1; have b4 := hI.b4; have b9 := hI.b9
  have hd := hI.deb hj
  have hm := Nat.mod_lt (sn S 8) (show 0 < sn S 9 by omega)
  have hyt : S (17 + 16 * sn S (213 + 7 * j + 3) + sn S 8 % sn S 9) = nI (dyS S (sn S (213 + 7 * j + 3))) := hI.tb hd.2.2.2.1.2 hm
  have hyb : dyS S (sn S (213 + 7 * j + 3)) < sn S 9 := hI.tbb hd.2.2.2.1.2 hm
  refine g_in (cd := k_269) (nL := 3) (rc := 13) rfl (g_A (a := 800) (kd := 0) (n := 12) rfl (by decide)) (g_c1 rfl) (b_269_0 hI hS (by omega) hj (fun h1 => ?_) (fun h1 s8 e8 => ?_))
  · rw [hyt]
    have h1 : ¬ dyS S (sn S (213 + 7 * j + 3)) = sn S (213 + 7 * j + 4) := h1
    refine b_269_26 hI hS (by omega) (by omega) hj (fun h2 => ?_) (fun h2 s5 e5 => ?_)
    · have e : stD S j = S := by
        unfold stD
        rw [if_neg h1, if_neg h2]
      rw [e, ← hS, va_up_same]
    · have e : stD S j = pyS S j (sn S (213 + 7 * j)) (sn S (213 + 7 * j + 1)) := by
        unfold stD
        rw [if_neg h1, if_pos h2]
      rw [e, e5]
  · rw [hyt]
    have e : stD S j = pyS S j (sn S (213 + 7 * j + 1)) (sn S (213 + 7 * j)) := by
      unfold stD
      exact if_pos h1
    have h1 : dyS S (sn S (213 + 7 * j + 3)) = sn S (213 + 7 * j + 4) := h1
    have c0 := hd.1.2
    have c1 := hd.2.1.2
    have hne := hd.2.2.2.2.2.2.2.2
    refine b_269_26 (S := pyS S j (sn S (213 + 7 * j + 1)) (sn S (213 + 7 * j))) (hI.pyI (by omega) c1 c0) (by rw [e8, va_up_self]) (by omega) (by omega) ?_ (fun _ => by rw [e, e8]) (fun h2 => ?_)
    · rw [sn_eq (S := S) (pyS_ne (by omega) (by omega) (by omega))]; exact hj
    · rw [sn_eq (S := S) (i := 213 + 7 * j + 5) (pyS_ne (by omega) (by omega) (by omega))] at h2
      omega
