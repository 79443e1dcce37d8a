/-! ONE EARNS, AND LIVES THE DAY (made by wip/whole/gen56.py) -/
theorem b_29_0 {X : Nat × (Nat → Int32)} {d : Nat} {p : Nat → Nat} {sg : Mg} {Q : am_R → Prop} {B : Nat} {S : Nat → Int32} (hI : Inv B S) (hL : cwL 250 sg S) (hD : cwD 200 sg S) {v : Nat} (hW : LW S sg) {k : Nat} (u_k : k ≤ 7) (q1 : k < sn S 1) (q2 : v < sn S 0) (hv : S (113 + 6 * k) = nI v)
    (o1 : ∀ s1 : Mg, (∀ c, c ≠ 201 → c ≠ 213 → s1 c = sg c) → ∀ s7 : Mg, s7 = mu s1 255 k (nI (sn S (113 + 6 * k + 3) + min (gsm S (scf S k v (sn S 8)) 2 (nln S)) (9999 - sn S (113 + 6 * k + 3)))) → ∀ s8 : Mg, s8 = mu s7 250 14 (S 12 + nI (min (gsm S (scf S k v (sn S 8)) 2 (nln S)) (9999 - sn S (113 + 6 * k + 3)))) → ∀ s9 : Mg, s9 = mu s8 250 15 (S 13 + (nI (gsm S (scf S k v (sn S 8)) 2 (nln S)) - nI (min (gsm S (scf S k v (sn S 8)) 2 (nln S)) (9999 - sn S (113 + 6 * k + 3))))) → cwL 250 s9 (upd (upd (upd S (113 + 6 * k + 3) (nI (sn S (113 + 6 * k + 3) + min (gsm S (scf S k v (sn S 8)) 2 (nln S)) (9999 - sn S (113 + 6 * k + 3))))) 12 (S 12 + nI (min (gsm S (scf S k v (sn S 8)) 2 (nln S)) (9999 - sn S (113 + 6 * k + 3))))) 13 (S 13 + (nI (gsm S (scf S k v (sn S 8)) 2 (nln S)) - nI (min (gsm S (scf S k v (sn S 8)) 2 (nln S)) (9999 - sn S (113 + 6 * k + 3)))))) → cwD 200 s9 (upd (upd (upd S (113 + 6 * k + 3) (nI (sn S (113 + 6 * k + 3) + min (gsm S (scf S k v (sn S 8)) 2 (nln S)) (9999 - sn S (113 + 6 * k + 3))))) 12 (S 12 + nI (min (gsm S (scf S k v (sn S 8)) 2 (nln S)) (9999 - sn S (113 + 6 * k + 3))))) 13 (S 13 + (nI (gsm S (scf S k v (sn S 8)) 2 (nln S)) - nI (min (gsm S (scf S k v (sn S 8)) 2 (nln S)) (9999 - sn S (113 + 6 * k + 3)))))) → Q (gR0 p s9)) :
    gW X (d + 5) k_29 0 [some (vR 6), some (vI (nI k)), none, none] [] p sg Q := by
  have b0 := hI.b0; have b1 := hI.b1; have b2 := hI.b2; have b3 := hI.b3; have b4 := hI.b4; have b5 := hI.b5; have b6 := hI.b6; have b7 := hI.b7; have b8 := hI.b8; have b9 := hI.b9; have b14 := hI.b14
  refine g_pure 7 (i' := 7) (lv' := [some (vR 6), some (vI (nI k)), none, none]) (st' := [vI (nI k), vR 252, vI (nI k), vR 200]) rfl ?_
  refine g_ald rfl (g_A (a := 252) (kd := 1) (n := 8) rfl (by decide)) (by decide) (show nI k = nI k from (rfl : nI k = nI k)) (by omega) (show _ = nI v from ((hL.per 0 (by decide) (by omega))).trans hv) ?_
  refine g_pure 2 (i' := 10) (lv' := [some (vR 6), some (vI (nI k)), none, none]) (st' := [vR 250, vI (nI v), vI (nI k), vR 200]) rfl ?_
  refine g_getI rfl (g_A (a := 250) (kd := 0) (n := 6) rfl (by decide)) (show _ = S 8 from hL.f12) ?_
  refine gW_eq (st' := [vI (nI (sn S 8)), vI (nI v), vI (nI k), vR 200]) rfl (by rw [(show S 8 = nI (sn S 8) from (hI.c8))]) rfl ?_
  refine g_cV1E rfl (args := [vR 200, vI (nI k), vI (nI v), vI (nI (sn S 8))]) (rest := []) rfl rfl rfl (s_116 (d := d) hI hL hD hW (by omega) (by omega) (by omega)) (fun s1 es1 => ?_)
  have hLs1 : cwL 250 s1 S := (hL).eqc (fun c h1 h2 => es1 c (by omega) (by omega))
  have hDs1 : cwD 200 s1 S := (hD).eqc (fun c h1 => es1 c (by omega) (by omega))
  have t2 := gsm_lt hW.1 (sc := scf S k v (sn S 8)) 2
  refine g_pure 7 (i' := 19) (lv' := [some (vR 6), some (vI (nI k)), some (vI (nI (gsm S (scf S k v (sn S 8)) 2 (nln S)))), none]) (st' := [vI (nI k), vR 255, vI 9999, vI (nI (gsm S (scf S k v (sn S 8)) 2 (nln S)))]) rfl ?_
  refine g_ald rfl (g_A (a := 255) (kd := 1) (n := 8) rfl (by decide)) (by decide) (show nI k = nI k from (rfl : nI k = nI k)) (by omega) (show _ = S (113 + 6 * k + 3) from (hLs1.per 3 (by decide) (by omega))) ?_
  have t3 := (hI.per (k := k) (by omega)).2.1
  have t3b := t3.2
  refine gW_eq (lv' := [some (vR 6), some (vI (nI k)), some (vI (nI (gsm S (scf S k v (sn S 8)) 2 (nln S)))), none]) (st' := [vI (nI (sn S (113 + 6 * k + 3))), vI 9999, vI (nI (gsm S (scf S k v (sn S 8)) 2 (nln S)))]) rfl (by rw [(show S (113 + 6 * k + 3) = nI (sn S (113 + 6 * k + 3)) from t3.1)]) rfl ?_
  refine g_pure 1 (i' := 21) (lv' := [some (vR 6), some (vI (nI k)), some (vI (nI (gsm S (scf S k v (sn S 8)) 2 (nln S)))), none]) (st' := [vI (9999 - nI (sn S (113 + 6 * k + 3))), vI (nI (gsm S (scf S k v (sn S 8)) 2 (nln S)))]) rfl ?_
  refine gW_eq (lv' := [some (vR 6), some (vI (nI k)), some (vI (nI (gsm S (scf S k v (sn S 8)) 2 (nln S)))), none]) (st' := [vI (nI (9999 - sn S (113 + 6 * k + 3))), vI (nI (gsm S (scf S k v (sn S 8)) 2 (nln S)))]) rfl (by rw [(show (9999 - nI (sn S (113 + 6 * k + 3))) = nI (9999 - sn S (113 + 6 * k + 3)) from (g_sub (show (9999 : Int32) = nI 9999 from rfl) (rfl : nI (sn S (113 + 6 * k + 3)) = nI (sn S (113 + 6 * k + 3))) (by omega)))]) rfl ?_
  refine g_cS1 rfl (args := [vI (nI (gsm S (scf S k v (sn S 8)) 2 (nln S))), vI (nI (9999 - sn S (113 + 6 * k + 3)))]) (rest := []) rfl rfl rfl (s_313n (d := d + 4) (by omega) (by omega)) ?_
  have t4 := Nat.min_le_left (gsm S (scf S k v (sn S 8)) 2 (nln S)) (9999 - sn S (113 + 6 * k + 3))
  have t5 := Nat.min_le_right (gsm S (scf S k v (sn S 8)) 2 (nln S)) (9999 - sn S (113 + 6 * k + 3))
  refine g_pure 6 (i' := 28) (lv' := [some (vR 6), some (vI (nI k)), some (vI (nI (gsm S (scf S k v (sn S 8)) 2 (nln S)))), some (vI (nI (min (gsm S (scf S k v (sn S 8)) 2 (nln S)) (9999 - sn S (113 + 6 * k + 3)))))]) (st' := [vI (nI k), vR 255, vI (nI k), vR 255]) rfl ?_
  refine g_ald rfl (g_A (a := 255) (kd := 1) (n := 8) rfl (by decide)) (by decide) (show nI k = nI k from (rfl : nI k = nI k)) (by omega) (show _ = S (113 + 6 * k + 3) from (hLs1.per 3 (by decide) (by omega))) ?_
  have t6 := (hI.per (k := k) (by omega)).2.1
  have t6b := t6.2
  refine g_pure 2 (i' := 31) (lv' := [some (vR 6), some (vI (nI k)), some (vI (nI (gsm S (scf S k v (sn S 8)) 2 (nln S)))), some (vI (nI (min (gsm S (scf S k v (sn S 8)) 2 (nln S)) (9999 - sn S (113 + 6 * k + 3)))))]) (st' := [vI (S (113 + 6 * k + 3) + nI (min (gsm S (scf S k v (sn S 8)) 2 (nln S)) (9999 - sn S (113 + 6 * k + 3)))), vI (nI k), vR 255]) rfl ?_
  refine gW_eq (lv' := [some (vR 6), some (vI (nI k)), some (vI (nI (gsm S (scf S k v (sn S 8)) 2 (nln S)))), some (vI (nI (min (gsm S (scf S k v (sn S 8)) 2 (nln S)) (9999 - sn S (113 + 6 * k + 3)))))]) (st' := [vI (nI (sn S (113 + 6 * k + 3) + min (gsm S (scf S k v (sn S 8)) 2 (nln S)) (9999 - sn S (113 + 6 * k + 3)))), vI (nI k), vR 255]) rfl (by rw [(show (S (113 + 6 * k + 3) + nI (min (gsm S (scf S k v (sn S 8)) 2 (nln S)) (9999 - sn S (113 + 6 * k + 3)))) = nI (sn S (113 + 6 * k + 3) + min (gsm S (scf S k v (sn S 8)) 2 (nln S)) (9999 - sn S (113 + 6 * k + 3))) from ((g_add t6.1 (rfl : nI (min (gsm S (scf S k v (sn S 8)) 2 (nln S)) (9999 - sn S (113 + 6 * k + 3))) = nI (min (gsm S (scf S k v (sn S 8)) 2 (nln S)) (9999 - sn S (113 + 6 * k + 3)))))).trans (congrArg nI (by omega)))]) rfl ?_
  refine g_ast rfl (g_A (a := 255) (kd := 1) (n := 8) rfl (by decide)) (by decide) (show nI k = nI k from (rfl : nI k = nI k)) (by omega) ?_
  refine g_setv (fun s7 es7 => ?_)
  have hLs7 : cwL 250 s7 (upd S (113 + 6 * k + 3) (nI (sn S (113 + 6 * k + 3) + min (gsm S (scf S k v (sn S 8)) 2 (nln S)) (9999 - sn S (113 + 6 * k + 3))))) := by rw [es7]; exact hLs1.wper (j := 3) (by decide) (by omega)
  have hDs7 : cwD 200 s7 (upd S (113 + 6 * k + 3) (nI (sn S (113 + 6 * k + 3) + min (gsm S (scf S k v (sn S 8)) 2 (nln S)) (9999 - sn S (113 + 6 * k + 3))))) := by rw [es7]; exact hDs1.life (by decide) (by unfold noLand; omega)
  refine g_pure 3 (i' := 35) (lv' := [some (vR 6), some (vI (nI k)), some (vI (nI (gsm S (scf S k v (sn S 8)) 2 (nln S)))), some (vI (nI (min (gsm S (scf S k v (sn S 8)) 2 (nln S)) (9999 - sn S (113 + 6 * k + 3)))))]) (st' := [vR 250, vR 250]) rfl ?_
  refine g_getI rfl (g_A (a := 250) (kd := 0) (n := 6) rfl (by decide)) (show _ = S 12 from (hLs7.f14).trans (upd_ne (by omega))) ?_
  refine g_pure 2 (i' := 38) (lv' := [some (vR 6), some (vI (nI k)), some (vI (nI (gsm S (scf S k v (sn S 8)) 2 (nln S)))), some (vI (nI (min (gsm S (scf S k v (sn S 8)) 2 (nln S)) (9999 - sn S (113 + 6 * k + 3)))))]) (st' := [vI (S 12 + nI (min (gsm S (scf S k v (sn S 8)) 2 (nln S)) (9999 - sn S (113 + 6 * k + 3)))), vR 250]) rfl ?_
  refine g_putI rfl (g_A (a := 250) (kd := 0) (n := 6) rfl (by decide)) ?_
  refine g_setv (fun s8 es8 => ?_)
  have hLs8 : cwL 250 s8 (upd (upd S (113 + 6 * k + 3) (nI (sn S (113 + 6 * k + 3) + min (gsm S (scf S k v (sn S 8)) 2 (nln S)) (9999 - sn S (113 + 6 * k + 3))))) 12 (S 12 + nI (min (gsm S (scf S k v (sn S 8)) 2 (nln S)) (9999 - sn S (113 + 6 * k + 3))))) := by rw [es8]; exact hLs7.wfld (by decide)
  have hDs8 : cwD 200 s8 (upd (upd S (113 + 6 * k + 3) (nI (sn S (113 + 6 * k + 3) + min (gsm S (scf S k v (sn S 8)) 2 (nln S)) (9999 - sn S (113 + 6 * k + 3))))) 12 (S 12 + nI (min (gsm S (scf S k v (sn S 8)) 2 (nln S)) (9999 - sn S (113 + 6 * k + 3))))) := by rw [es8]; exact hDs7.life (by decide) (by unfold noLand; omega)
  refine g_pure 3 (i' := 42) (lv' := [some (vR 6), some (vI (nI k)), some (vI (nI (gsm S (scf S k v (sn S 8)) 2 (nln S)))), some (vI (nI (min (gsm S (scf S k v (sn S 8)) 2 (nln S)) (9999 - sn S (113 + 6 * k + 3)))))]) (st' := [vR 250, vR 250]) rfl ?_
  refine g_getI rfl (g_A (a := 250) (kd := 0) (n := 6) rfl (by decide)) (show _ = S 13 from ((hLs8.f15).trans (upd_ne (by omega))).trans (upd_ne (by omega))) ?_
  refine g_pure 4 (i' := 47) (lv' := [some (vR 6), some (vI (nI k)), some (vI (nI (gsm S (scf S k v (sn S 8)) 2 (nln S)))), some (vI (nI (min (gsm S (scf S k v (sn S 8)) 2 (nln S)) (9999 - sn S (113 + 6 * k + 3)))))]) (st' := [vI (S 13 + (nI (gsm S (scf S k v (sn S 8)) 2 (nln S)) - nI (min (gsm S (scf S k v (sn S 8)) 2 (nln S)) (9999 - sn S (113 + 6 * k + 3))))), vR 250]) rfl ?_
  refine g_putI rfl (g_A (a := 250) (kd := 0) (n := 6) rfl (by decide)) ?_
  refine g_setv (fun s9 es9 => ?_)
  have hLs9 : cwL 250 s9 (upd (upd (upd S (113 + 6 * k + 3) (nI (sn S (113 + 6 * k + 3) + min (gsm S (scf S k v (sn S 8)) 2 (nln S)) (9999 - sn S (113 + 6 * k + 3))))) 12 (S 12 + nI (min (gsm S (scf S k v (sn S 8)) 2 (nln S)) (9999 - sn S (113 + 6 * k + 3))))) 13 (S 13 + (nI (gsm S (scf S k v (sn S 8)) 2 (nln S)) - nI (min (gsm S (scf S k v (sn S 8)) 2 (nln S)) (9999 - sn S (113 + 6 * k + 3)))))) := by rw [es9]; exact hLs8.wfld (by decide)
  have hDs9 : cwD 200 s9 (upd (upd (upd S (113 + 6 * k + 3) (nI (sn S (113 + 6 * k + 3) + min (gsm S (scf S k v (sn S 8)) 2 (nln S)) (9999 - sn S (113 + 6 * k + 3))))) 12 (S 12 + nI (min (gsm S (scf S k v (sn S 8)) 2 (nln S)) (9999 - sn S (113 + 6 * k + 3))))) 13 (S 13 + (nI (gsm S (scf S k v (sn S 8)) 2 (nln S)) - nI (min (gsm S (scf S k v (sn S 8)) 2 (nln S)) (9999 - sn S (113 + 6 * k + 3)))))) := by rw [es9]; exact hDs8.life (by decide) (by unfold noLand; omega)
  refine g_vret rfl ?_
  exact o1 s1 es1 s7 es7 s8 es8 s9 es9 hLs9 hDs9

theorem b_30_0 {X : Nat × (Nat → Int32)} {d : Nat} {p : Nat → Nat} {sg : Mg} {Q : am_R → Prop} {B : Nat} {S : Nat → Int32} (hI : Inv B S) (hL : cwL 250 sg S) (hD : cwD 200 sg S) {v : Nat} {k : Nat} (u_k : k ≤ 7) (q1 : k < sn S 1) (q2 : v < sn S 0) (hv : S (113 + 6 * k) = nI v)
    (o1 : ∀ s2 : Mg, s2 = mu sg 256 k (S (113 + 6 * k + 4) ||| (1 <<< (S (17 + 16 * v + ((sn S 8) % sn S 9)) &&& 31))) → cwL 250 s2 (upd S (113 + 6 * k + 4) (S (113 + 6 * k + 4) ||| (1 <<< (S (17 + 16 * v + ((sn S 8) % sn S 9)) &&& 31)))) → cwD 200 s2 (upd S (113 + 6 * k + 4) (S (113 + 6 * k + 4) ||| (1 <<< (S (17 + 16 * v + ((sn S 8) % sn S 9)) &&& 31)))) → gW X (d + 3) k_30 27 [some (vR 6), some (vI (nI k)), some (vI (nI v)), some (vI (S (17 + 16 * v + ((sn S 8) % sn S 9)))), some (vI 0)] [] p s2 Q) :
    gW X (d + 3) k_30 0 [some (vR 6), some (vI (nI k)), none, none, none] [] p sg Q := by
  have b0 := hI.b0; have b1 := hI.b1; have b2 := hI.b2; have b3 := hI.b3; have b4 := hI.b4; have b5 := hI.b5; have b6 := hI.b6; have b7 := hI.b7; have b8 := hI.b8; have b9 := hI.b9; have b14 := hI.b14
  refine g_pure 4 (i' := 4) (lv' := [some (vR 6), some (vI (nI k)), none, none, none]) (st' := [vI (nI k), vR 252]) rfl ?_
  refine g_ald rfl (g_A (a := 252) (kd := 1) (n := 8) rfl (by decide)) (by decide) (show nI k = nI k from (rfl : nI k = nI k)) (by omega) (show _ = nI v from ((hL.per 0 (by decide) (by omega))).trans hv) ?_
  refine g_pure 6 (i' := 11) (lv' := [some (vR 6), some (vI (nI k)), some (vI (nI v)), none, none]) (st' := [vR 250, vI (nI v), vR 200]) rfl ?_
  refine g_getI rfl (g_A (a := 250) (kd := 0) (n := 6) rfl (by decide)) (show _ = S 8 from hL.f12) ?_
  refine gW_eq (st' := [vI (nI (sn S 8)), vI (nI v), vR 200]) rfl (by rw [(show S 8 = nI (sn S 8) from (hI.c8))]) rfl ?_
  refine g_cV1 rfl (args := [vR 200, vI (nI v), vI (nI (sn S 8))]) (rest := []) rfl rfl rfl (s_110 (d := d) hI hL hD (by omega) (by omega)) ?_
  have t1 := Nat.mod_lt ((sn S 8)) (y := sn S 9) (by omega)
  refine g_pure 6 (i' := 19) (lv' := [some (vR 6), some (vI (nI k)), some (vI (nI v)), some (vI (S (17 + 16 * v + ((sn S 8) % sn S 9)))), none]) (st' := [vI (nI k), vR 256, vI (nI k), vR 256]) rfl ?_
  refine g_ald rfl (g_A (a := 256) (kd := 1) (n := 8) rfl (by decide)) (by decide) (show nI k = nI k from (rfl : nI k = nI k)) (by omega) (show _ = S (113 + 6 * k + 4) from (hL.per 4 (by decide) (by omega))) ?_
  refine g_pure 4 (i' := 24) (lv' := [some (vR 6), some (vI (nI k)), some (vI (nI v)), some (vI (S (17 + 16 * v + ((sn S 8) % sn S 9)))), none]) (st' := [vI (S (113 + 6 * k + 4) ||| (1 <<< (S (17 + 16 * v + ((sn S 8) % sn S 9)) &&& 31))), vI (nI k), vR 256]) rfl ?_
  refine g_ast rfl (g_A (a := 256) (kd := 1) (n := 8) rfl (by decide)) (by decide) (show nI k = nI k from (rfl : nI k = nI k)) (by omega) ?_
  refine g_setv (fun s2 es2 => ?_)
  have hLs2 : cwL 250 s2 (upd S (113 + 6 * k + 4) (S (113 + 6 * k + 4) ||| (1 <<< (S (17 + 16 * v + ((sn S 8) % sn S 9)) &&& 31)))) := by rw [es2]; exact hL.wper (j := 4) (by decide) (by omega)
  have hDs2 : cwD 200 s2 (upd S (113 + 6 * k + 4) (S (113 + 6 * k + 4) ||| (1 <<< (S (17 + 16 * v + ((sn S 8) % sn S 9)) &&& 31)))) := by rw [es2]; exact hD.life (by decide) (by unfold noLand; omega)
  refine g_pure 2 (i' := 27) (lv' := [some (vR 6), some (vI (nI k)), some (vI (nI v)), some (vI (S (17 + 16 * v + ((sn S 8) % sn S 9)))), some (vI 0)]) (st' := []) rfl ?_
  exact o1 s2 es2 hLs2 hDs2

theorem b_30_27 {X : Nat × (Nat → Int32)} {d : Nat} {p : Nat → Nat} {sg : Mg} {Q : am_R → Prop} {B : Nat} {S : Nat → Int32} (hI : Inv B S) (hL : cwL 250 sg S) (hD : cwD 200 sg S) {k : Nat} {v : Nat} {y : Nat} {f : Nat} (u_k : k ≤ 7) (u_v : v ≤ 5) (u_y : y ≤ 15) (u_f : f ≤ 8) (q1 : k < sn S 1)
    (o1 : (sn S 2 ≤ f) → Q (gR0 p sg))
    (o2 : (¬ (sn S 2 ≤ f)) → (¬ sn S (161 + 2 * f) = v) → gW X (d + 3) k_30 27 [some (vR 6), some (vI (nI k)), some (vI (nI v)), some (vI (nI y)), some (vI (nI (f + 1)))] [] p sg Q)
    (o3 : (¬ (sn S 2 ≤ f)) → (sn S (161 + 2 * f) = v) → (¬ sn S (161 + 2 * f + 1) = y) → gW X (d + 3) k_30 27 [some (vR 6), some (vI (nI k)), some (vI (nI v)), some (vI (nI y)), some (vI (nI (f + 1)))] [] p sg Q)
    (o4 : (¬ (sn S 2 ≤ f)) → (sn S (161 + 2 * f) = v) → (sn S (161 + 2 * f + 1) = y) → gW X (d + 3) k_30 52 [some (vR 6), some (vI (nI k)), some (vI (nI v)), some (vI (nI y)), some (vI (nI f))] [] p sg Q) :
    gW X (d + 3) k_30 27 [some (vR 6), some (vI (nI k)), some (vI (nI v)), some (vI (nI y)), some (vI (nI f))] [] p sg Q := by
  have b0 := hI.b0; have b1 := hI.b1; have b2 := hI.b2; have b3 := hI.b3; have b4 := hI.b4; have b5 := hI.b5; have b6 := hI.b6; have b7 := hI.b7; have b8 := hI.b8; have b9 := hI.b9; have b14 := hI.b14
  refine g_pure 5 (i' := 32) (lv' := [some (vR 6), some (vI (nI k)), some (vI (nI v)), some (vI (nI y)), some (vI (nI f))]) (st' := [vI 2, vR 203, vI (nI f)]) rfl ?_
  refine g_ald rfl (g_A (a := 203) (kd := 1) (n := 6) rfl (by decide)) (by decide) (show 2 = nI 2 from (show (2 : Int32) = nI 2 from rfl)) (by decide) (show _ = S 2 from (hD.cnt (by decide))) ?_
  refine g_if2 (i' := 69) (P := sn S 2 ≤ f) rfl rfl (g_geN (show nI f = nI f from (rfl : nI f = nI f)) (show S 2 = nI (sn S 2) from (hI.c2)) (by omega) (by omega)) (fun h1 => ?_) (fun h1 => ?_)
  · refine g_vret rfl ?_
    exact o1 h1
  · refine g_pure 4 (i' := 38) (lv' := [some (vR 6), some (vI (nI k)), some (vI (nI v)), some (vI (nI y)), some (vI (nI f))]) (st' := [vI (nI f), vR 204]) rfl ?_
    refine g_aald rfl (Or.inl rfl) (g_A (a := 204) (kd := 5) (n := 8) rfl (by decide)) (by decide) (show nI f = nI f from (rfl : nI f = nI f)) (by omega) (gR_204 (by omega)) ?_
    refine g_pure 1 (i' := 40) (lv' := [some (vR 6), some (vI (nI k)), some (vI (nI v)), some (vI (nI y)), some (vI (nI f))]) (st' := [vI 0, vR (214 + f)]) rfl ?_
    refine g_ald rfl (gA_204 (by omega)) (by decide) (show 0 = nI 0 from (show (0 : Int32) = nI 0 from rfl)) (by decide) (show _ = S (161 + 2 * f) from (hD.fac 0 (by omega) (by decide))) ?_
    refine g_pure 1 (i' := 42) (lv' := [some (vR 6), some (vI (nI k)), some (vI (nI v)), some (vI (nI y)), some (vI (nI f))]) (st' := [vI (nI v), vI (S (161 + 2 * f))]) rfl ?_
    have t2 := (hI.fac (k := f) (by omega)).1
    have t2b := t2.2
    refine g_if2 (i' := 67) (P := ¬ sn S (161 + 2 * f) = v) rfl rfl (g_neN (show S (161 + 2 * f) = nI (sn S (161 + 2 * f)) from t2.1) (show nI v = nI v from (rfl : nI v = nI v)) (by omega) (by omega)) (fun h3 => ?_) (fun h3 => ?_)
    · refine g_pure 2 (i' := 27) (lv' := [some (vR 6), some (vI (nI k)), some (vI (nI v)), some (vI (nI y)), some (vI (nI f + 1))]) (st' := []) rfl ?_
      refine gW_eq (lv' := [some (vR 6), some (vI (nI k)), some (vI (nI v)), some (vI (nI y)), some (vI (nI (f + 1)))]) (st' := []) (by rw [(show (nI f + 1) = nI (f + 1) from ((g_add (rfl : nI f = nI f) (show (1 : Int32) = nI 1 from rfl))).trans (congrArg nI (by omega)))]) rfl rfl ?_
      exact o2 h1 h3
    · have h3 := Classical.not_not.mp h3
      refine g_pure 4 (i' := 47) (lv' := [some (vR 6), some (vI (nI k)), some (vI (nI v)), some (vI (nI y)), some (vI (nI f))]) (st' := [vI (nI f), vR 204]) rfl ?_
      refine g_aald rfl (Or.inl rfl) (g_A (a := 204) (kd := 5) (n := 8) rfl (by decide)) (by decide) (show nI f = nI f from (rfl : nI f = nI f)) (by omega) (gR_204 (by omega)) ?_
      refine g_pure 1 (i' := 49) (lv' := [some (vR 6), some (vI (nI k)), some (vI (nI v)), some (vI (nI y)), some (vI (nI f))]) (st' := [vI 1, vR (214 + f)]) rfl ?_
      refine g_ald rfl (gA_204 (by omega)) (by decide) (show 1 = nI 1 from (show (1 : Int32) = nI 1 from rfl)) (by decide) (show _ = S (161 + 2 * f + 1) from (hD.fac 1 (by omega) (by decide))) ?_
      refine g_pure 1 (i' := 51) (lv' := [some (vR 6), some (vI (nI k)), some (vI (nI v)), some (vI (nI y)), some (vI (nI f))]) (st' := [vI (nI y), vI (S (161 + 2 * f + 1))]) rfl ?_
      have t4 := (hI.fac (k := f) (by omega)).2
      have t4b := t4.2
      refine g_if2 (i' := 67) (P := ¬ sn S (161 + 2 * f + 1) = y) rfl rfl (g_neN (show S (161 + 2 * f + 1) = nI (sn S (161 + 2 * f + 1)) from t4.1) (show nI y = nI y from (rfl : nI y = nI y)) (by omega) (by omega)) (fun h5 => ?_) (fun h5 => ?_)
      · refine g_pure 2 (i' := 27) (lv' := [some (vR 6), some (vI (nI k)), some (vI (nI v)), some (vI (nI y)), some (vI (nI f + 1))]) (st' := []) rfl ?_
        refine gW_eq (lv' := [some (vR 6), some (vI (nI k)), some (vI (nI v)), some (vI (nI y)), some (vI (nI (f + 1)))]) (st' := []) (by rw [(show (nI f + 1) = nI (f + 1) from ((g_add (rfl : nI f = nI f) (show (1 : Int32) = nI 1 from rfl))).trans (congrArg nI (by omega)))]) rfl rfl ?_
        exact o3 h1 h3 h5
      · have h5 := Classical.not_not.mp h5
        exact o4 h1 h3 h5

/-- one earns g -/
def erS (S : Nat → Int32) (k g : Nat) : Nat → Int32 := upd (upd (upd S (113 + 6 * k + 3) (nI (sn S (113 + 6 * k + 3) + min g (9999 - sn S (113 + 6 * k + 3))))) 12 (S 12 + nI (min g (9999 - sn S (113 + 6 * k + 3))))) 13 (S 13 + (nI g - nI (min g (9999 - sn S (113 + 6 * k + 3)))))
/-- what one earns there now -/
def gnS (S : Nat → Int32) (k v : Nat) : Nat := gsm S (scf S k v (sn S 8)) 2 (nln S)
theorem erS_ne {S : Nat → Int32} {k g i : Nat} (h1 : i ≠ 113 + 6 * k + 3) (h2 : i ≠ 12) (h3 : i ≠ 13) : erS S k g i = S i := by
  unfold erS
  rw [upd_ne h3, upd_ne h2, upd_ne h1]
theorem Inv.erI {B : Nat} {S : Nat → Int32} (hI : Inv B S) {k g : Nat} (hk : k < sn S 1) : Inv B (erS S k g) := by
  have h := (hI.per hk).2.1.2
  have h2 := Nat.min_le_right g (9999 - sn S (113 + 6 * k + 3))
  unfold erS
  refine ((hI.per1 hk (Or.inl ⟨rfl, by omega⟩)).free ?_).free ?_
  · unfold freeI; omega
  · unfold freeI; omega
theorem s_29 {X : Nat × (Nat → Int32)} {d : Nat} {p : Nat → Nat} {sg : Mg} {B : Nat} {S : Nat → Int32} (hI : Inv B S) (hL : cwL 250 sg S) (hD : cwD 200 sg S) (hW : LW S sg) {k v : Nat} (hk : k < sn S 1) (hv : S (113 + 6 * k) = nI v) (hv0 : v < sn S 0) : gF X (d + 6) 29 [vR 6, vI (nI k)] p sg (fun r => ∃ s, (DF sg s ∧ s 6 = sg 6 ∧ CS s (erS S k (gnS S k v))) ∧ r = gR0 p s) := by
  have b1 := hI.b1
  refine g_in (cd := k_29) (nL := 4) (rc := 3) rfl (g_A (a := 6) (kd := 0) (n := 2) rfl (by decide)) (g_c1 rfl) (b_29_0 hI hL hD hW (by omega) hk hv0 hv (fun s1 h1 s7 e7 s8 e8 s9 e9 h3 h4 => ⟨s9, ⟨fun c _ _ x3 x4 x5 => ?_, ?_, h3, h4⟩, rfl⟩))
  · rw [e9, mu_ne (by omega), e8, mu_ne (by omega), e7, mu_ne (by omega)]; exact h1 c x3 x4
  · rw [e9, mu_ne (by decide), e8, mu_ne (by decide), e7, mu_ne (by decide)]; exact h1 6 (by decide) (by decide)
/-- the day is lived -/
def lvS (S : Nat → Int32) (k y : Nat) : Nat → Int32 := upd S (113 + 6 * k + 4) (nI (sn S (113 + 6 * k + 4) ||| 2 ^ y))
theorem lvS_ne {S : Nat → Int32} {k y i : Nat} (h : i ≠ 113 + 6 * k + 4) : lvS S k y i = S i := upd_ne h
theorem Inv.lvI {B : Nat} {S : Nat → Int32} (hI : Inv B S) {k y : Nat} (hk : k < sn S 1) (hy : y < 16) : Inv B (lvS S k y) := hI.per1 hk (Or.inr (Or.inl ⟨rfl, or_lt (n := 16) (hI.per hk).2.2.1.2 (pow_lt2 hy)⟩))
/-- the facts of a village and a day, and how many are new -/
def fcA (S : Nat → Int32) (k v y : Nat) : Nat → (Nat → Int32) × Nat
  | 0 => (S, 0)
  | f + 1 => if sn S (161 + 2 * f) = v ∧ sn S (161 + 2 * f + 1) = y then (lrS (fcA S k v y f).1 k f 9, (fcA S k v y f).2 + (if (sn (fcA S k v y f).1 (113 + 6 * k + 5)).testBit f = true then 0 else 1)) else fcA S k v y f
theorem lrS_ne {S : Nat → Int32} {k f b i : Nat} (h : i ≠ 14 ∧ (i < 309 ∨ 709 ≤ i) ∧ i ≠ 113 + 6 * k + 5) : lrS S k f b i = S i := by
  unfold lrS
  split
  · rfl
  · rw [rcS_ne ⟨h.1, h.2.1⟩, upd_ne h.2.2]
theorem fcA_inv {B : Nat} {S : Nat → Int32} (hI : Inv B S) {k v y : Nat} (hk : k < sn S 1) : ∀ f, f ≤ 8 → Inv B (fcA S k v y f).1 ∧ (fcA S k v y f).2 ≤ f ∧ ∀ i, i ≠ 14 ∧ (i < 309 ∨ 709 ≤ i) ∧ i ≠ 113 + 6 * k + 5 → (fcA S k v y f).1 i = S i
  | 0, _ => ⟨hI, Nat.le_refl _, fun _ _ => rfl⟩
  | f + 1, h => by
    have b1 := hI.b1
    obtain ⟨h1, h2, h3⟩ := fcA_inv hI (v := v) (y := y) hk f (by omega)
    unfold fcA
    split
    · refine ⟨h1.lr (by rw [sn_eq (h3 1 (by omega))]; exact hk) (by omega), ?_, fun i hi => ?_⟩
      · dsimp only
        split <;> omega
      · dsimp only
        rw [lrS_ne hi, h3 i hi]
    · exact ⟨h1, by omega, h3⟩

theorem CS.per {s : Mg} {S : Nat → Int32} (h : CS s S) : CS s S := h
/-- the class: one lives the day -/
theorem s_30 {X : Nat × (Nat → Int32)} {d : Nat} {p : Nat → Nat} {sg : Mg} {B : Nat} {S : Nat → Int32} (hI : Inv B S) (hL : cwL 250 sg S) (hD : cwD 200 sg S) {k v : Nat} (hk : k < sn S 1) (hv : S (113 + 6 * k) = nI v) (hv0 : v < sn S 0) {y : Nat} (hy : y = sn S (17 + 16 * v + sn S 8 % sn S 9)) : gF X (d + 4) 30 [vR 6, vI (nI k)] p sg (fun r => ∃ s, (DF sg s ∧ s 6 4 = sg 6 4 + nI (fcA (lvS S k y) k v y (sn S 2)).2 ∧ CS s (fcA (lvS S k y) k v y (sn S 2)).1) ∧ r = gR0 p s) := by
  have b0 := hI.b0; have b1 := hI.b1; have b2 := hI.b2; have b9 := hI.b9
  have hm := Nat.mod_lt (sn S 8) (show 0 < sn S 9 by omega)
  have hyt : S (17 + 16 * v + sn S 8 % sn S 9) = nI y := by rw [hy]; exact hI.tb hv0 hm
  have hyb : y < sn S 9 := by rw [hy]; exact hI.tbb hv0 hm
  obtain ⟨c1, c2⟩ := (hI.per hk).2.2.1
  refine g_in (cd := k_30) (nL := 5) (rc := 3) rfl (g_A (a := 6) (kd := 0) (n := 2) rfl (by decide)) (g_c1 rfl) (b_30_0 hI hL hD (by omega) hk hv0 hv (fun s2 e2 h1 h2 => ?_))
  have e : S (113 + 6 * k + 4) ||| (1 <<< (S (17 + 16 * v + sn S 8 % sn S 9) &&& 31)) = nI (sn S (113 + 6 * k + 4) ||| 2 ^ y) := by
    rw [hyt, show S (113 + 6 * k + 4) = nI (sn S (113 + 6 * k + 4)) from c1, nI_orbit (by omega)]
  rw [e] at h1 h2
  rw [hyt]
  have hJ : Inv B (lvS S k y) := hI.lvI hk (by omega)
  have hkJ : k < sn (lvS S k y) 1 := by rw [sn_eq (lvS_ne (by omega))]; exact hk
  have hJ2 : sn (lvS S k y) 2 = sn S 2 := sn_eq (lvS_ne (by omega))
  have key := g_upI (P := fun f => ∀ s, DF sg s → s 6 4 = sg 6 4 + nI (fcA (lvS S k y) k v y f).2 → CS s (fcA (lvS S k y) k v y f).1 → gW X (d + 3) k_30 27 [some (vR 6), some (vI (nI k)), some (vI (nI v)), some (vI (nI y)), some (vI (nI f))] [] p s (fun r => ∃ s, (DF sg s ∧ s 6 4 = sg 6 4 + nI (fcA (lvS S k y) k v y (sn S 2)).2 ∧ CS s (fcA (lvS S k y) k v y (sn S 2)).1) ∧ r = gR0 p s)) (I := fun _ => True) (n := sn S 2) (a := 0) (by omega) trivial ?_ ?_
  · refine key s2 (fun c _ _ _ _ hc => by rw [e2, mu_ne (by omega)]) ?_ ⟨h1, h2⟩
    rw [e2, mu_ne (by decide)]
    show sg 6 4 = sg 6 4 + 0
    rw [Int32.add_zero]
  · intro f _ hf _ ih s hs h6 hc
    have ih := ih trivial
    obtain ⟨hT, hT1, hT2⟩ := fcA_inv hJ (v := v) (y := y) hkJ f (by omega)
    rw [show fcA (lvS S k y) k v y (f + 1) = if sn (lvS S k y) (161 + 2 * f) = v ∧ sn (lvS S k y) (161 + 2 * f + 1) = y then (lrS (fcA (lvS S k y) k v y f).1 k f 9, (fcA (lvS S k y) k v y f).2 + (if (sn (fcA (lvS S k y) k v y f).1 (113 + 6 * k + 5)).testBit f = true then 0 else 1)) else fcA (lvS S k y) k v y f from rfl] at ih
    have t1 : sn (fcA (lvS S k y) k v y f).1 1 = sn S 1 := (sn_eq (hT2 1 (by omega))).trans (sn_eq (lvS_ne (by omega)))
    have t2 : sn (fcA (lvS S k y) k v y f).1 2 = sn S 2 := (sn_eq (hT2 2 (by omega))).trans hJ2
    rw [← sn_eq (hT2 (161 + 2 * f) (by omega)), ← sn_eq (hT2 (161 + 2 * f + 1) (by omega))] at ih
    generalize fcA (lvS S k y) k v y f = T at h6 hc hT hT1 t1 t2 ih
    refine b_30_27 hT hc.1 hc.2 (by omega) (by omega) (by omega) (by omega) (by omega) (fun h => by omega) (fun _ h => ?_) (fun _ h h3 => ?_) (fun _ h h3 => ?_)
    · rw [if_neg (fun h9 => h h9.1)] at ih
      exact ih s hs h6 hc
    · rw [if_neg (fun h9 => h3 h9.2)] at ih
      exact ih s hs h6 hc
    · rw [if_pos ⟨h, h3⟩] at ih
      refine g_pure 2 (i' := 54) (lv' := [some (vR 6), some (vI (nI k)), some (vI (nI v)), some (vI (nI y)), some (vI (nI f))]) (st' := [vR 6, vR 6]) rfl ?_
      refine g_getI rfl (g_A (a := 6) (kd := 0) (n := 2) rfl (by decide)) h6 ?_
      refine g_pure 5 (i' := 60) (lv' := [some (vR 6), some (vI (nI k)), some (vI (nI v)), some (vI (nI y)), some (vI (nI f))]) (st' := [vI (nI 9), vI (nI f), vI (nI k), vR 250, vI (sg 6 4 + nI T.2), vR 6]) rfl ?_
      refine g_cV1E rfl (args := [vR 250, vI (nI k), vI (nI f), vI (nI 9)]) (rest := [vI (sg 6 4 + nI T.2), vR 6]) rfl rfl rfl (s_57 (d := d + 1) hT hc.1 hc.2 (by omega) (by omega) (by omega)) (fun s3 h9 => ?_)
      have hdf : ∀ x, DF sg (mu s3 6 4 x) := fun x c x1 x2 x3 x4 x5 => by rw [mu_ne x1, h9.1 c (by omega) (by omega) (by omega)]; exact hs c x1 x2 x3 x4 x5
      have hcs : ∀ x, CS (mu s3 6 4 x) (lrS T.1 k f 9) := fun x => ⟨h9.2.1.out (by decide), h9.2.2.out (by decide)⟩
      have fin : ∀ n x, x = sg 6 4 + nI T.2 + nI n → n = (if (sn T.1 (113 + 6 * k + 5)).testBit f = true then 0 else 1) → gW X (d + 3) k_30 66 [some (vR 6), some (vI (nI k)), some (vI (nI v)), some (vI (nI y)), some (vI (nI f))] [vI x, vR 6] p s3 (fun r => ∃ s, (DF sg s ∧ s 6 4 = sg 6 4 + nI (fcA (lvS S k y) k v y (sn S 2)).2 ∧ CS s (fcA (lvS S k y) k v y (sn S 2)).1) ∧ r = gR0 p s) := by
        intro n x hx hn
        refine g_putI rfl (g_A (a := 6) (kd := 0) (n := 2) rfl (by decide)) ?_
        refine g_pure 2 (i' := 27) (lv' := [some (vR 6), some (vI (nI k)), some (vI (nI v)), some (vI (nI y)), some (vI (nI f + 1))]) (st' := []) rfl ?_
        refine gW_eq (lv' := [some (vR 6), some (vI (nI k)), some (vI (nI v)), some (vI (nI y)), some (vI (nI (f + 1)))]) (by rw [nI_succ]) rfl rfl ?_
        refine ih _ (hdf x) ?_ (hcs x)
        rw [mu_self, hx, Int32.add_assoc, nI_add, hn]
      refine g_if1 (i' := 64) (P := (sn T.1 (113 + 6 * k + 5)).testBit f = true) rfl rfl ?_ (fun hb => ?_) (fun hb => ?_)
      · show (if (sn T.1 (113 + 6 * k + 5)).testBit f = true then (0 : Int32) else 1) = 0 ↔ _
        by_cases hb : (sn T.1 (113 + 6 * k + 5)).testBit f = true
        · rw [if_pos hb]; exact ⟨fun _ => hb, fun _ => rfl⟩
        · rw [if_neg hb]; exact ⟨fun h => absurd h (by decide), fun h => absurd h hb⟩
      · refine g_pure 2 (i' := 66) (lv' := [some (vR 6), some (vI (nI k)), some (vI (nI v)), some (vI (nI y)), some (vI (nI f))]) (st' := [vI (sg 6 4 + nI T.2 + 0), vR 6]) rfl ?_
        exact fin 0 _ rfl (by rw [if_pos hb])
      · refine g_pure 3 (i' := 66) (lv' := [some (vR 6), some (vI (nI k)), some (vI (nI v)), some (vI (nI y)), some (vI (nI f))]) (st' := [vI (sg 6 4 + nI T.2 + 1), vR 6]) rfl ?_
        exact fin 1 _ rfl (by rw [if_neg hb])
  · intro _ s hs h6 hc
    obtain ⟨hT, hT1, hT2⟩ := fcA_inv hJ (v := v) (y := y) hkJ (sn S 2) (by omega)
    have t1 : sn (fcA (lvS S k y) k v y (sn S 2)).1 1 = sn S 1 := (sn_eq (hT2 1 (by omega))).trans (sn_eq (lvS_ne (by omega)))
    have t2 : sn (fcA (lvS S k y) k v y (sn S 2)).1 2 = sn S 2 := (sn_eq (hT2 2 (by omega))).trans hJ2
    exact b_30_27 hT hc.1 hc.2 (by omega) (by omega) (by omega) (by omega) (by omega) (fun _ => ⟨s, ⟨hs, h6, hc⟩, rfl⟩) (fun h => by omega) (fun h => by omega) (fun h => by omega)
