/-! MISPRINTS of the reference; ARRIVALS (made by wip/whole/gen55.py) -/
theorem s_264 {X : Nat × (Nat → Int32)} {d : Nat} {p : Nat → Nat} {sg : Mg} {B : Nat} {S : Nat → Int32} (hI : Inv B S) (hS : sg 801 = S) : gF X (d + 3) 264 [vR 800] p sg (fun r => r = gR0 p (va_up sg 801 (mpA S (sn S 0)))) := by
  have b0 := hI.b0
  refine g_in (cd := k_264) (nL := 3) (rc := 13) rfl (g_A (a := 800) (kd := 0) (n := 12) rfl (by decide)) (g_c1 rfl) ?_
  show gW X (d + 2) k_264 0 [some (vR 800), none, none] [] p sg _
  refine g_pure 2 (i' := 2) (lv' := [some (vR 800), some (vI (nI 0)), none]) (st' := []) rfl ?_
  have key := g_upI (P := fun v => ∀ z2, gW X (d + 2) k_264 2 [some (vR 800), some (vI (nI v)), z2] [] p (va_up sg 801 (mpA S v)) (fun r => r = gR0 p (va_up sg 801 (mpA S (sn S 0))))) (I := fun _ => True) (n := sn S 0) (a := 0) (by omega) trivial ?_ ?_
  · have h := key none
    rw [show mpA S 0 = sg 801 from hS.symm, va_up_same] at h
    exact h
  · intro v _ hv _ ih z2
    have ih := ih trivial
    obtain ⟨hT, hT2⟩ := mpA_inv hI v (by omega)
    rw [show mpA S (v + 1) = mpS (mpA S v) v from rfl] at ih
    have t0 : sn (mpA S v) 0 = sn S 0 := sn_eq (hT2 0 (by omega))
    generalize mpA S v = T at hT t0 ih ⊢
    have b9 := hT.b9
    have hs : ∀ U, (va_up sg 801 U) 801 = U := fun U => va_up_self _ _ _
    refine g_pure 2 (i' := 4) (lv' := [some (vR 800), some (vI (nI v)), z2]) (st' := [vR 800, vI (nI v)]) rfl ?_
    refine g_cV1 rfl (args := [vR 800]) (rest := [vI (nI v)]) rfl rfl rfl (s_195 (d := d + 1) (hs T)) ?_
    refine g_if2 (i' := 30) (P := sn T 0 ≤ v) rfl rfl (g_geN rfl hT.c0 (by omega) (by omega)) (fun h => by omega) (fun _ => ?_)
    refine g_pure 2 (i' := 8) (lv' := [some (vR 800), some (vI (nI v)), z2]) (st' := [vI (nI 100), vR 800]) rfl ?_
    refine g_cV1 rfl (args := [vR 800, vI (nI 100)]) (rest := []) rfl rfl rfl (s_265 (d := d + 1) (by omega) (by omega)) ?_
    rw [hs T, va_up2]
    refine g_pure 3 (i' := 12) (lv' := [some (vR 800), some (vI (nI v)), z2]) (st' := [vI 15, vR 801, vI (nI (dv (nxS T) % 100))]) rfl ?_
    refine g_ald rfl (g_A (a := 801) (kd := 1) (n := 2407) rfl (by decide)) (by decide) (show (15 : Int32) = nI 15 from rfl) (by decide) (congrFun (hs (dS T)) 15) ?_
    refine g_if2 (i' := 15) (P := nI (dv (nxS T) % 100) < dS T 15) rfl rfl Iff.rfl (fun h => ?_) (fun h => ?_)
    · have l2 := dv_lt (nxS (dS T))
      have l3 := dv_lt (nxS (dS (dS T)))
      have n9 : ∀ U, sn U 9 = sn T 9 → Inv B U → gF X (d + 2) 199 [vR 800] p (va_up sg 801 U) (fun r => r = gRv p (va_up sg 801 U) (nI (sn T 9))) := by
        intro U hU hIU
        refine gF_mono (s_199 (d := d + 1) (hs U)) (fun r hr => hr.trans (congrArg (gRv p _) ?_))
        rw [hIU.c9, hU]
      refine g_pure 2 (i' := 17) (lv' := [some (vR 800), some (vI (nI v)), z2]) (st' := [vR 800, vR 800]) rfl ?_
      refine g_cV1 rfl (args := [vR 800]) (rest := [vR 800]) rfl rfl rfl (n9 (dS T) (sn_dS (by decide)) hT.drI) ?_
      refine g_cV1 rfl (args := [vR 800, vI (nI (sn T 9))]) (rest := []) rfl rfl rfl (s_265 (d := d + 1) (by omega) (by omega)) ?_
      rw [hs (dS T), va_up2]
      refine g_pure 6 (i' := 25) (lv' := [some (vR 800), some (vI (nI v)), some (vI (nI (dv (nxS (dS T)) % sn T 9)))]) (st' := [vR 800, vR 800, vI (nI (dv (nxS (dS T)) % sn T 9)), vI (nI v), vR 800]) rfl ?_
      refine g_cV1 rfl (args := [vR 800]) (rest := [vR 800, vI (nI (dv (nxS (dS T)) % sn T 9)), vI (nI v), vR 800]) rfl rfl rfl (n9 (dS (dS T)) (by rw [sn_dS (by decide), sn_dS (by decide)]) hT.drI.drI) ?_
      refine g_cV1 rfl (args := [vR 800, vI (nI (sn T 9))]) (rest := [vI (nI (dv (nxS (dS T)) % sn T 9)), vI (nI v), vR 800]) rfl rfl rfl (s_265 (d := d + 1) (by omega) (by omega)) ?_
      rw [hs (dS (dS T)), va_up2]
      have m1 := Nat.mod_lt (dv (nxS (dS T))) (show 0 < sn T 9 by omega)
      have m2 := Nat.mod_lt (dv (nxS (dS (dS T)))) (show 0 < sn T 9 by omega)
      refine g_cV0 rfl (args := [vR 800, vI (nI v), vI (nI (dv (nxS (dS T)) % sn T 9)), vI (nI (dv (nxS (dS (dS T))) % sn T 9))]) (rest := []) rfl rfl rfl (s_218 (d := d) hT.drI.drI.drI (hs _) (by omega) (by omega) (by omega)) ?_
      rw [va_up2]
      refine g_pure 2 (i' := 2) (lv' := [some (vR 800), some (vI (nI v + 1)), some (vI (nI (dv (nxS (dS T)) % sn T 9)))]) (st' := []) rfl ?_
      refine gW_eq (lv' := [some (vR 800), some (vI (nI (v + 1))), some (vI (nI (dv (nxS (dS T)) % sn T 9)))]) (by rw [nI_succ]) rfl rfl ?_
      have := ih (some (vI (nI (dv (nxS (dS T)) % sn T 9))))
      unfold mpS at this
      rw [if_neg (Int32.not_le.mpr h)] at this
      exact this
    · refine g_pure 3 (i' := 2) (lv' := [some (vR 800), some (vI (nI v + 1)), z2]) (st' := []) rfl ?_
      refine gW_eq (lv' := [some (vR 800), some (vI (nI (v + 1))), z2]) (by rw [nI_succ]) rfl rfl ?_
      have := ih z2
      unfold mpS at this
      rw [if_pos (Int32.not_lt.mp h)] at this
      exact this
  · intro _ z2
    obtain ⟨hT, hT2⟩ := mpA_inv hI (sn S 0) (Nat.le_refl _)
    have t0 : sn (mpA S (sn S 0)) 0 = sn S 0 := sn_eq (hT2 0 (by omega))
    refine g_pure 2 (i' := 4) (lv' := [some (vR 800), some (vI (nI (sn S 0))), z2]) (st' := [vR 800, vI (nI (sn S 0))]) rfl ?_
    refine g_cV1 rfl (args := [vR 800]) (rest := [vI (nI (sn S 0))]) rfl rfl rfl (s_195 (d := d + 1) (va_up_self _ _ _)) ?_
    refine g_if2 (i' := 30) (P := sn (mpA S (sn S 0)) 0 ≤ sn S 0) rfl rfl (g_geN rfl hT.c0 (by omega) (by omega)) (fun _ => ?_) (fun h => by omega)
    exact g_vret rfl rfl

theorem b_28_0 {X : Nat × (Nat → Int32)} {d : Nat} {p : Nat → Nat} {sg : Mg} {Q : am_R → Prop} {B : Nat} {S : Nat → Int32} (hI : Inv B S) (hL : cwL 250 sg S) (hD : cwD 200 sg S)
    (o1 : gW X (d) k_28 2 [some (vR 6), some (vI 0)] [] p sg Q) :
    gW X (d) k_28 0 [some (vR 6), none] [] p sg Q := by
  have b0 := hI.b0; have b1 := hI.b1; have b2 := hI.b2; have b3 := hI.b3; have b4 := hI.b4; have b5 := hI.b5; have b6 := hI.b6; have b7 := hI.b7; have b8 := hI.b8; have b9 := hI.b9; have b14 := hI.b14
  refine g_pure 2 (i' := 2) (lv' := [some (vR 6), some (vI 0)]) (st' := []) rfl ?_
  exact o1

theorem b_28_2 {X : Nat × (Nat → Int32)} {d : Nat} {p : Nat → Nat} {sg : Mg} {Q : am_R → Prop} {B : Nat} {S : Nat → Int32} (hI : Inv B S) (hL : cwL 250 sg S) (hD : cwD 200 sg S) {k : Nat} (u_k : k ≤ 8)
    (o1 : (sn S 1 ≤ k) → Q (gR0 p sg))
    (o2 : (¬ (sn S 1 ≤ k)) → (¬ S (113 + 6 * k) = (-1)) → gW X (d) k_28 2 [some (vR 6), some (vI (nI (k + 1)))] [] p sg Q)
    (o3 : (¬ (sn S 1 ≤ k)) → (S (113 + 6 * k) = (-1)) → (¬ S (113 + 6 * k + 2) = S 8) → gW X (d) k_28 2 [some (vR 6), some (vI (nI (k + 1)))] [] p sg Q)
    (o4 : (¬ (sn S 1 ≤ k)) → (S (113 + 6 * k) = (-1)) → (S (113 + 6 * k + 2) = S 8) → ∀ s4 : Mg, s4 = mu sg 252 k (S (113 + 6 * k + 1)) → ∀ s5 : Mg, s5 = mu s4 253 k (-1) → ∀ s6 : Mg, s6 = mu s5 254 k (-1) → cwL 250 s6 (upd (upd (upd S (113 + 6 * k) (S (113 + 6 * k + 1))) (113 + 6 * k + 1) (-1)) (113 + 6 * k + 2) (-1)) → cwD 200 s6 (upd (upd (upd S (113 + 6 * k) (S (113 + 6 * k + 1))) (113 + 6 * k + 1) (-1)) (113 + 6 * k + 2) (-1)) → gW X (d) k_28 2 [some (vR 6), some (vI (nI (k + 1)))] [] p s6 Q) :
    gW X (d) k_28 2 [some (vR 6), some (vI (nI k))] [] p sg Q := by
  have b0 := hI.b0; have b1 := hI.b1; have b2 := hI.b2; have b3 := hI.b3; have b4 := hI.b4; have b5 := hI.b5; have b6 := hI.b6; have b7 := hI.b7; have b8 := hI.b8; have b9 := hI.b9; have b14 := hI.b14
  refine g_pure 5 (i' := 7) (lv' := [some (vR 6), some (vI (nI k))]) (st' := [vI 1, vR 203, vI (nI k)]) rfl ?_
  refine g_ald rfl (g_A (a := 203) (kd := 1) (n := 6) rfl (by decide)) (by decide) (show 1 = nI 1 from (show (1 : Int32) = nI 1 from rfl)) (by decide) (show _ = S 1 from (hD.cnt (by decide))) ?_
  refine g_if2 (i' := 49) (P := sn S 1 ≤ k) rfl rfl (g_geN (show nI k = nI k from (rfl : nI k = nI k)) (show S 1 = nI (sn S 1) from (hI.c1)) (by omega) (by omega)) (fun h1 => ?_) (fun h1 => ?_)
  · refine g_vret rfl ?_
    exact o1 h1
  · refine g_pure 4 (i' := 13) (lv' := [some (vR 6), some (vI (nI k))]) (st' := [vI (nI k), vR 252]) rfl ?_
    refine g_ald rfl (g_A (a := 252) (kd := 1) (n := 8) rfl (by decide)) (by decide) (show nI k = nI k from (rfl : nI k = nI k)) (by omega) (show _ = S (113 + 6 * k) from (hL.per 0 (by decide) (by omega))) ?_
    refine g_pure 1 (i' := 15) (lv' := [some (vR 6), some (vI (nI k))]) (st' := [vI (-1), vI (S (113 + 6 * k))]) rfl ?_
    refine g_if2 (i' := 47) (P := ¬ S (113 + 6 * k) = (-1)) rfl rfl Iff.rfl (fun h2 => ?_) (fun h2 => ?_)
    · refine g_pure 2 (i' := 2) (lv' := [some (vR 6), some (vI (nI k + 1))]) (st' := []) rfl ?_
      refine gW_eq (lv' := [some (vR 6), some (vI (nI (k + 1)))]) (st' := []) (by rw [(show (nI k + 1) = nI (k + 1) from ((g_add (rfl : nI k = nI k) (show (1 : Int32) = nI 1 from rfl))).trans (congrArg nI (by omega)))]) rfl rfl ?_
      exact o2 h1 h2
    · have h2 := Classical.not_not.mp h2
      refine g_pure 4 (i' := 20) (lv' := [some (vR 6), some (vI (nI k))]) (st' := [vI (nI k), vR 254]) rfl ?_
      refine g_ald rfl (g_A (a := 254) (kd := 1) (n := 8) rfl (by decide)) (by decide) (show nI k = nI k from (rfl : nI k = nI k)) (by omega) (show _ = S (113 + 6 * k + 2) from (hL.per 2 (by decide) (by omega))) ?_
      refine g_pure 2 (i' := 23) (lv' := [some (vR 6), some (vI (nI k))]) (st' := [vR 250, vI (S (113 + 6 * k + 2))]) rfl ?_
      refine g_getI rfl (g_A (a := 250) (kd := 0) (n := 6) rfl (by decide)) (show _ = S 8 from hL.f12) ?_
      refine g_if2 (i' := 47) (P := ¬ S (113 + 6 * k + 2) = S 8) rfl rfl Iff.rfl (fun h3 => ?_) (fun h3 => ?_)
      · refine g_pure 2 (i' := 2) (lv' := [some (vR 6), some (vI (nI k + 1))]) (st' := []) rfl ?_
        refine gW_eq (lv' := [some (vR 6), some (vI (nI (k + 1)))]) (st' := []) (by rw [(show (nI k + 1) = nI (k + 1) from ((g_add (rfl : nI k = nI k) (show (1 : Int32) = nI 1 from rfl))).trans (congrArg nI (by omega)))]) rfl rfl ?_
        exact o3 h1 h2 h3
      · have h3 := Classical.not_not.mp h3
        refine g_pure 8 (i' := 33) (lv' := [some (vR 6), some (vI (nI k))]) (st' := [vI (nI k), vR 253, vI (nI k), vR 252]) rfl ?_
        refine g_ald rfl (g_A (a := 253) (kd := 1) (n := 8) rfl (by decide)) (by decide) (show nI k = nI k from (rfl : nI k = nI k)) (by omega) (show _ = S (113 + 6 * k + 1) from (hL.per 1 (by decide) (by omega))) ?_
        refine g_ast rfl (g_A (a := 252) (kd := 1) (n := 8) rfl (by decide)) (by decide) (show nI k = nI k from (rfl : nI k = nI k)) (by omega) ?_
        refine g_setv (fun s4 es4 => ?_)
        have hLs4 : cwL 250 s4 (upd S (113 + 6 * k) (S (113 + 6 * k + 1))) := by rw [es4]; exact hL.wper (j := 0) (by decide) (by omega)
        have hDs4 : cwD 200 s4 (upd S (113 + 6 * k) (S (113 + 6 * k + 1))) := by rw [es4]; exact hD.life (by decide) (by unfold noLand; omega)
        refine g_pure 5 (i' := 40) (lv' := [some (vR 6), some (vI (nI k))]) (st' := [vI (-1), vI (nI k), vR 253]) rfl ?_
        refine g_ast rfl (g_A (a := 253) (kd := 1) (n := 8) rfl (by decide)) (by decide) (show nI k = nI k from (rfl : nI k = nI k)) (by omega) ?_
        refine g_setv (fun s5 es5 => ?_)
        have hLs5 : cwL 250 s5 (upd (upd S (113 + 6 * k) (S (113 + 6 * k + 1))) (113 + 6 * k + 1) (-1)) := by rw [es5]; exact hLs4.wper (j := 1) (by decide) (by omega)
        have hDs5 : cwD 200 s5 (upd (upd S (113 + 6 * k) (S (113 + 6 * k + 1))) (113 + 6 * k + 1) (-1)) := by rw [es5]; exact hDs4.life (by decide) (by unfold noLand; omega)
        refine g_pure 5 (i' := 46) (lv' := [some (vR 6), some (vI (nI k))]) (st' := [vI (-1), vI (nI k), vR 254]) rfl ?_
        refine g_ast rfl (g_A (a := 254) (kd := 1) (n := 8) rfl (by decide)) (by decide) (show nI k = nI k from (rfl : nI k = nI k)) (by omega) ?_
        refine g_setv (fun s6 es6 => ?_)
        have hLs6 : cwL 250 s6 (upd (upd (upd S (113 + 6 * k) (S (113 + 6 * k + 1))) (113 + 6 * k + 1) (-1)) (113 + 6 * k + 2) (-1)) := by rw [es6]; exact hLs5.wper (j := 2) (by decide) (by omega)
        have hDs6 : cwD 200 s6 (upd (upd (upd S (113 + 6 * k) (S (113 + 6 * k + 1))) (113 + 6 * k + 1) (-1)) (113 + 6 * k + 2) (-1)) := by rw [es6]; exact hDs5.life (by decide) (by unfold noLand; omega)
        refine g_pure 2 (i' := 2) (lv' := [some (vR 6), some (vI (nI k + 1))]) (st' := []) rfl ?_
        refine gW_eq (lv' := [some (vR 6), some (vI (nI (k + 1)))]) (st' := []) (by rw [(show (nI k + 1) = nI (k + 1) from ((g_add (rfl : nI k = nI k) (show (1 : Int32) = nI 1 from rfl))).trans (congrArg nI (by omega)))]) rfl rfl ?_
        exact o4 h1 h2 h3 s4 es4 s5 es5 s6 es6 hLs6 hDs6

theorem b_266_0 {X : Nat × (Nat → Int32)} {d : Nat} {p : Nat → Nat} {sg : Mg} {Q : am_R → Prop} {B : Nat} {S : Nat → Int32} (hI : Inv B S) (hS : sg 801 = S) {k : Nat} (u_k : k ≤ 7) (q1 : k < sn S 1)
    (o1 : (S (113 + 6 * k + 2) = S 8) → ∀ s2 : Mg, s2 = mu sg 801 (113 + 6 * k) (S (113 + 6 * k + 1)) → ∀ s3 : Mg, s3 = mu s2 801 (113 + 6 * k + 1) (-1) → ∀ s4 : Mg, s4 = mu s3 801 (113 + 6 * k + 2) (-1) → s4 801 = (upd (upd (upd S (113 + 6 * k) (S (113 + 6 * k + 1))) (113 + 6 * k + 1) (-1)) (113 + 6 * k + 2) (-1)) → Q (gR0 p s4))
    (o2 : (¬ (S (113 + 6 * k + 2) = S 8)) → Q (gR0 p sg)) :
    gW X (d + 1) k_266 0 [some (vR 800), some (vI (nI k))] [] p sg Q := by
  have b0 := hI.b0; have b1 := hI.b1; have b2 := hI.b2; have b3 := hI.b3; have b4 := hI.b4; have b5 := hI.b5; have b6 := hI.b6; have b7 := hI.b7; have b8 := hI.b8; have b9 := hI.b9; have b14 := hI.b14
  refine g_pure 3 (i' := 3) (lv' := [some (vR 800), some (vI (nI k))]) (st' := [vI 2, vI (nI k), vR 800]) rfl ?_
  refine gW_eq (st' := [vI (nI 2), vI (nI k), vR 800]) rfl (by rw [(show (2 : Int32) = nI 2 from rfl)]) rfl ?_
  refine g_cV1 rfl (args := [vR 800, vI (nI k), vI (nI 2)]) (rest := []) rfl rfl rfl (s_238 (d := d) hS (by omega) (by omega)) ?_
  refine g_pure 1 (i' := 5) (lv' := [some (vR 800), some (vI (nI k))]) (st' := [vR 800, vI (S (113 + 6 * k + 2))]) rfl ?_
  refine g_cV1 rfl (args := [vR 800]) (rest := [vI (S (113 + 6 * k + 2))]) rfl rfl rfl (s_248 (d := d) hS) ?_
  refine g_if2 (i' := 8) (P := S (113 + 6 * k + 2) = S 8) rfl rfl Iff.rfl (fun h1 => ?_) (fun h1 => ?_)
  · refine g_pure 6 (i' := 14) (lv' := [some (vR 800), some (vI (nI k))]) (st' := [vI 1, vI (nI k), vR 800, vI 0, vI (nI k), vR 800]) rfl ?_
    refine gW_eq (st' := [vI (nI 1), vI (nI k), vR 800, vI 0, vI (nI k), vR 800]) rfl (by rw [(show (1 : Int32) = nI 1 from rfl)]) rfl ?_
    refine g_cV1 rfl (args := [vR 800, vI (nI k), vI (nI 1)]) (rest := [vI 0, vI (nI k), vR 800]) rfl rfl rfl (s_238 (d := d) hS (by omega) (by omega)) ?_
    refine gW_eq (st' := [vI (S (113 + 6 * k + 1)), vI (nI 0), vI (nI k), vR 800]) rfl (by rw [(show (0 : Int32) = nI 0 from rfl)]) rfl ?_
    refine g_cV0 rfl (args := [vR 800, vI (nI k), vI (nI 0), vI (S (113 + 6 * k + 1))]) (rest := []) rfl rfl rfl (s_205 (d := d) (by omega) (by omega)) ?_
    refine g_setv (fun s2 es2 => ?_)
    have hSs2 : s2 801 = upd S (113 + 6 * k) (S (113 + 6 * k + 1)) := by rw [es2, mu_row, hS]; rfl
    refine g_pure 4 (i' := 20) (lv' := [some (vR 800), some (vI (nI k))]) (st' := [vI (-1), vI 1, vI (nI k), vR 800]) rfl ?_
    refine gW_eq (st' := [vI (-1), vI (nI 1), vI (nI k), vR 800]) rfl (by rw [(show (1 : Int32) = nI 1 from rfl)]) rfl ?_
    refine g_cV0 rfl (args := [vR 800, vI (nI k), vI (nI 1), vI (-1)]) (rest := []) rfl rfl rfl (s_205 (d := d) (by omega) (by omega)) ?_
    refine g_setv (fun s3 es3 => ?_)
    have hSs3 : s3 801 = upd (upd S (113 + 6 * k) (S (113 + 6 * k + 1))) (113 + 6 * k + 1) (-1) := by rw [es3, mu_row, hSs2]
    refine g_pure 4 (i' := 25) (lv' := [some (vR 800), some (vI (nI k))]) (st' := [vI (-1), vI 2, vI (nI k), vR 800]) rfl ?_
    refine gW_eq (st' := [vI (-1), vI (nI 2), vI (nI k), vR 800]) rfl (by rw [(show (2 : Int32) = nI 2 from rfl)]) rfl ?_
    refine g_cV0 rfl (args := [vR 800, vI (nI k), vI (nI 2), vI (-1)]) (rest := []) rfl rfl rfl (s_205 (d := d) (by omega) (by omega)) ?_
    refine g_setv (fun s4 es4 => ?_)
    have hSs4 : s4 801 = upd (upd (upd S (113 + 6 * k) (S (113 + 6 * k + 1))) (113 + 6 * k + 1) (-1)) (113 + 6 * k + 2) (-1) := by rw [es4, mu_row, hSs3]
    refine g_vret rfl ?_
    exact o1 h1 s2 es2 s3 es3 s4 es4 hSs4
  · refine g_vret rfl ?_
    exact o2 h1

/-- whoever is to be there now is there -/
def arS (S : Nat → Int32) (k : Nat) : Nat → Int32 := if S (113 + 6 * k + 2) = S 8 then goS S k (S (113 + 6 * k + 1)) (-1) (-1) else S
def arA (S : Nat → Int32) : Nat → Nat → Int32
  | 0 => S
  | k + 1 => arS (arA S k) k
theorem arS_ne {S : Nat → Int32} {k i : Nat} (h : i < 113 ∨ 161 ≤ i) (hk : k < 8) : arS S k i = S i := by
  unfold arS
  split
  · exact goS_ne (by omega)
  · rfl
theorem road_of {B : Nat} {S : Nat → Int32} (hI : Inv B S) {k : Nat} (hk : k < sn S 1) (h : S (113 + 6 * k + 2) = S 8) : S (113 + 6 * k) = -1 ∧ isN S (113 + 6 * k + 1) (sn S 0) := by
  rcases (hI.per hk).1 with h1 | h1
  · exfalso
    rw [h1.2.2, hI.c8] at h
    have b8 := hI.b8
    exact absurd h (by intro h9; have : nI (sn S 8) < 0 := by rw [← h9]; decide
                       exact absurd this (nI_pos (by omega)))
  · exact ⟨h1.1, h1.2.1⟩
theorem Inv.arI {B : Nat} {S : Nat → Int32} (hI : Inv B S) {k : Nat} (hk : k < sn S 1) : Inv B (arS S k) := by
  unfold arS
  split
  · rename_i h
    obtain ⟨h1, h2⟩ := road_of hI hk h
    exact hI.goI hk (Or.inl ⟨_, h2.2, h2.1, rfl, rfl⟩)
  · exact hI
theorem arA_inv {B : Nat} {S : Nat → Int32} (hI : Inv B S) : ∀ k, k ≤ sn S 1 → Inv B (arA S k) ∧ ∀ i, (i < 113 ∨ 161 ≤ i) → arA S k i = S i
  | 0, _ => ⟨hI, fun _ _ => rfl⟩
  | k + 1, h => by
    have b1 := hI.b1
    obtain ⟨h1, h2⟩ := arA_inv hI k (by omega)
    refine ⟨h1.arI (by rw [sn_eq (h2 1 (by omega))]; omega), fun i hi => ?_⟩
    show arS (arA S k) k i = S i
    rw [arS_ne hi (by omega), h2 i hi]
theorem s_28 {X : Nat × (Nat → Int32)} {d : Nat} {p : Nat → Nat} {sg : Mg} {B : Nat} {S : Nat → Int32} (hI : Inv B S) (hL : cwL 250 sg S) (hD : cwD 200 sg S) : gF X (d + 1) 28 [vR 6] p sg (fun r => ∃ s, (DG sg s ∧ CS s (arA S (sn S 1))) ∧ r = gR0 p s) := by
  have b1 := hI.b1
  refine g_in (cd := k_28) (nL := 2) (rc := 3) rfl (g_A (a := 6) (kd := 0) (n := 2) rfl (by decide)) (g_c1 rfl) (b_28_0 hI hL hD ?_)
  have key := g_upI (P := fun k => ∀ s, DG sg s → CS s (arA S k) → gW X d k_28 2 [some (vR 6), some (vI (nI k))] [] p s (fun r => ∃ s, (DG sg s ∧ CS s (arA S (sn S 1))) ∧ r = gR0 p s)) (I := fun _ => True) (n := sn S 1) (a := 0) (by omega) trivial ?_ ?_
  · exact key sg (DG.rf _) ⟨hL, hD⟩
  · intro k _ hk _ ih s hs hc
    have ih := ih trivial
    obtain ⟨hT, hT2⟩ := arA_inv hI k (by omega)
    rw [show arA S (k + 1) = arS (arA S k) k from rfl] at ih
    have t1 : sn (arA S k) 1 = sn S 1 := sn_eq (hT2 1 (by omega))
    generalize arA S k = T at hc hT t1 ih
    refine b_28_2 hT hc.1 hc.2 (by omega) (fun h => by omega) (fun _ h => ?_) (fun _ h h2 => ?_) (fun _ h h2 s4 e4 s5 e5 s6 e6 h3 h4 => ?_)
    · refine ih s hs ?_
      unfold arS
      rw [if_neg (fun h9 => h (road_of hT (by omega) h9).1)]
      exact hc
    · refine ih s hs ?_
      unfold arS
      rw [if_neg h2]
      exact hc
    · refine ih s6 (hs.tr (fun c hc => by rw [e6, mu_ne (by omega), e5, mu_ne (by omega), e4, mu_ne (by omega)])) ?_
      unfold arS
      rw [if_pos h2]
      exact ⟨h3, h4⟩
  · intro _ s hs hc
    obtain ⟨hT, hT2⟩ := arA_inv hI (sn S 1) (Nat.le_refl _)
    have t1 : sn (arA S (sn S 1)) 1 = sn S 1 := sn_eq (hT2 1 (by omega))
    exact b_28_2 hT hc.1 hc.2 (by omega) (fun _ => ⟨s, ⟨hs, hc⟩, rfl⟩) (fun h => by omega) (fun h => by omega) (fun h => by omega)
theorem s_266 {X : Nat × (Nat → Int32)} {d : Nat} {p : Nat → Nat} {sg : Mg} {B : Nat} {S : Nat → Int32} (hI : Inv B S) (hS : sg 801 = S) {k : Nat} (hk : k < sn S 1) : gF X (d + 2) 266 [vR 800, vI (nI k)] p sg (fun r => r = gR0 p (va_up sg 801 (arS S k))) := by
  have b1 := hI.b1
  refine g_in (cd := k_266) (nL := 2) (rc := 13) rfl (g_A (a := 800) (kd := 0) (n := 12) rfl (by decide)) (g_c1 rfl) (b_266_0 hI hS (by omega) hk (fun h s2 e2 s3 e3 s4 e4 h4 => ?_) (fun h => ?_))
  · have e : s4 = va_up sg 801 (s4 801) := by
      funext c
      by_cases hc : c = 801
      · subst hc; rw [va_up_self]
      · rw [va_up_ne _ _ hc, e4, mu_ne hc, e3, mu_ne hc, e2, mu_ne hc]
    rw [e, h4]
    unfold arS
    rw [if_pos h]
    rfl
  · unfold arS
    rw [if_neg h, ← hS, va_up_same]
