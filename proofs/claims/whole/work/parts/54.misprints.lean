/-! MISPRINTS, on both sides (made by wip/whole/gen54.py) -/
theorem b_27_0 {X : Nat × (Nat → Int32)} {d : Nat} {p : Nat → Nat} {sg : Mg} {Q : am_R → Prop} {B : Nat} {S : Nat → Int32} (hI : Inv B S) (hL : cwL 250 sg S) (hD : cwD 200 sg S)
    (o1 : ∀ s1 : Mg, s1 = mu sg 250 13 ((1103515245 * S 16) + 12345) → cwL 250 s1 (upd S 16 ((1103515245 * S 16) + 12345)) → cwD 200 s1 (upd S 16 ((1103515245 * S 16) + 12345)) → Q (gRv p s1 (((((1103515245 * S 16) + 12345) : Int32).toUInt32 >>> ((16 : Int32).toUInt32 &&& Int32.toUInt32 31)).toInt32 &&& 32767))) :
    gW X (d) k_27 0 [some (vR 6)] [] p sg Q := by
  have b0 := hI.b0; have b1 := hI.b1; have b2 := hI.b2; have b3 := hI.b3; have b4 := hI.b4; have b5 := hI.b5; have b6 := hI.b6; have b7 := hI.b7; have b8 := hI.b8; have b9 := hI.b9; have b14 := hI.b14
  refine g_pure 5 (i' := 5) (lv' := [some (vR 6)]) (st' := [vR 250, vI 1103515245, vR 250]) rfl ?_
  refine g_getI rfl (g_A (a := 250) (kd := 0) (n := 6) rfl (by decide)) (show _ = S 16 from hL.f13) ?_
  refine g_pure 3 (i' := 9) (lv' := [some (vR 6)]) (st' := [vI ((1103515245 * S 16) + 12345), vR 250]) rfl ?_
  refine g_putI rfl (g_A (a := 250) (kd := 0) (n := 6) rfl (by decide)) ?_
  refine g_setv (fun s1 es1 => ?_)
  have hLs1 : cwL 250 s1 (upd S 16 ((1103515245 * S 16) + 12345)) := by rw [es1]; exact hL.wfld (by decide)
  have hDs1 : cwD 200 s1 (upd S 16 ((1103515245 * S 16) + 12345)) := by rw [es1]; exact hD.life (by decide) (by unfold noLand; omega)
  refine g_pure 2 (i' := 12) (lv' := [some (vR 6)]) (st' := [vR 250]) rfl ?_
  refine g_getI rfl (g_A (a := 250) (kd := 0) (n := 6) rfl (by decide)) (show _ = ((1103515245 * S 16) + 12345) from (hLs1.f13).trans upd_self) ?_
  refine g_pure 4 (i' := 17) (lv' := [some (vR 6)]) (st' := [vI (((((1103515245 * S 16) + 12345) : Int32).toUInt32 >>> ((16 : Int32).toUInt32 &&& Int32.toUInt32 31)).toInt32 &&& 32767)]) rfl ?_
  refine g_iret rfl ?_
  exact o1 s1 es1 hLs1 hDs1

theorem b_265_0 {X : Nat × (Nat → Int32)} {d : Nat} {p : Nat → Nat} {sg : Mg} {Q : am_R → Prop} {S : Nat → Int32} (hS : sg 801 = S) {n : Nat} (u_n : n ≤ 100) (q1 : 1 ≤ n)
    (o1 : ∀ s1 : Mg, s1 = mu sg 801 16 ((1103515245 * S 16) + 12345) → ¬ nI n = 0)
    (o2 : ∀ s1 : Mg, s1 = mu sg 801 16 ((1103515245 * S 16) + 12345) → s1 801 = (upd S 16 ((1103515245 * S 16) + 12345)) → Q (gRv p s1 (((((1103515245 * S 16) + 12345) >>> ((16 : Int32) &&& 31)) &&& 32767) - ((((1103515245 * S 16) + 12345) >>> ((16 : Int32) &&& 31)) &&& 32767) / nI n * nI n))) :
    gW X (d) k_265 0 [some (vR 800), some (vI (nI n))] [] p sg Q := by
  refine g_pure 7 (i' := 7) (lv' := [some (vR 800), some (vI (nI n))]) (st' := [vI 16, vR 801, vI 1103515245, vI 16, vR 801]) rfl ?_
  refine g_ald rfl (g_A (a := 801) (kd := 1) (n := 2407) rfl (by decide)) (by decide) (show 16 = nI 16 from (show (16 : Int32) = nI 16 from rfl)) (by decide) (show _ = S 16 from (congrFun hS 16)) ?_
  refine g_pure 3 (i' := 11) (lv' := [some (vR 800), some (vI (nI n))]) (st' := [vI ((1103515245 * S 16) + 12345), vI 16, vR 801]) rfl ?_
  refine g_ast rfl (g_A (a := 801) (kd := 1) (n := 2407) rfl (by decide)) (by decide) (show 16 = nI 16 from (show (16 : Int32) = nI 16 from rfl)) (by decide) ?_
  refine g_setv (fun s1 es1 => ?_)
  have hSs1 : s1 801 = upd S 16 ((1103515245 * S 16) + 12345) := by rw [es1, mu_row, hS]
  refine g_pure 3 (i' := 15) (lv' := [some (vR 800), some (vI (nI n))]) (st' := [vI 16, vR 801]) rfl ?_
  refine g_ald rfl (g_A (a := 801) (kd := 1) (n := 2407) rfl (by decide)) (by decide) (show 16 = nI 16 from (show (16 : Int32) = nI 16 from rfl)) (by decide) (show _ = ((1103515245 * S 16) + 12345) from ((congrFun hSs1 16)).trans upd_self) ?_
  refine g_pure 5 (i' := 21) (lv' := [some (vR 800), some (vI (nI n))]) (st' := [vI (nI n), vI ((((1103515245 * S 16) + 12345) >>> ((16 : Int32) &&& 31)) &&& 32767)]) rfl ?_
  refine g_rem rfl (o1 s1 es1) ?_
  refine g_iret rfl ?_
  exact o2 s1 es1 hSs1

theorem b_56_0 {X : Nat × (Nat → Int32)} {d : Nat} {p : Nat → Nat} {sg : Mg} {Q : am_R → Prop} {B : Nat} {S : Nat → Int32} (hI : Inv B S) (hL : cwL 250 sg S) (hD : cwD 200 sg S) {v : Nat} {a : Nat} {b : Nat} (u_v : v ≤ 5) (u_a : a ≤ 15) (u_b : b ≤ 15)
    (o1 : ∀ s1 : Mg, s1 = mu sg (262 + v) a (S (17 + 16 * v + b)) → ∀ s2 : Mg, s2 = mu s1 (262 + v) b (S (17 + 16 * v + a)) → cwL 250 s2 (upd (upd S (17 + 16 * v + a) (S (17 + 16 * v + b))) (17 + 16 * v + b) (S (17 + 16 * v + a))) → cwD 200 s2 (upd (upd S (17 + 16 * v + a) (S (17 + 16 * v + b))) (17 + 16 * v + b) (S (17 + 16 * v + a))) → Q (gR0 p s2)) :
    gW X (d) k_56 0 [some (vR 250), some (vI (nI v)), some (vI (nI a)), some (vI (nI b)), none, none] [] p sg Q := by
  have b0 := hI.b0; have b1 := hI.b1; have b2 := hI.b2; have b3 := hI.b3; have b4 := hI.b4; have b5 := hI.b5; have b6 := hI.b6; have b7 := hI.b7; have b8 := hI.b8; have b9 := hI.b9; have b14 := hI.b14
  refine g_pure 3 (i' := 3) (lv' := [some (vR 250), some (vI (nI v)), some (vI (nI a)), some (vI (nI b)), none, none]) (st' := [vI (nI v), vR 251]) rfl ?_
  refine g_aald rfl (Or.inl rfl) (g_A (a := 251) (kd := 5) (n := 6) rfl (by decide)) (by decide) (show nI v = nI v from (rfl : nI v = nI v)) (by omega) (gR_251 (by omega)) ?_
  refine g_pure 3 (i' := 7) (lv' := [some (vR 250), some (vI (nI v)), some (vI (nI a)), some (vI (nI b)), some (vR (262 + v)), none]) (st' := [vI (nI a), vR (262 + v)]) rfl ?_
  refine g_ald rfl (gA_251 (by omega)) (by decide) (show nI a = nI a from (rfl : nI a = nI a)) (by omega) (show _ = S (17 + 16 * v + a) from (hL.tab (by omega) (by omega))) ?_
  refine g_pure 5 (i' := 13) (lv' := [some (vR 250), some (vI (nI v)), some (vI (nI a)), some (vI (nI b)), some (vR (262 + v)), some (vI (S (17 + 16 * v + a)))]) (st' := [vI (nI b), vR (262 + v), vI (nI a), vR (262 + v)]) rfl ?_
  refine g_ald rfl (gA_251 (by omega)) (by decide) (show nI b = nI b from (rfl : nI b = nI b)) (by omega) (show _ = S (17 + 16 * v + b) from (hL.tab (by omega) (by omega))) ?_
  refine g_ast rfl (gA_251 (by omega)) (by decide) (show nI a = nI a from (rfl : nI a = nI a)) (by omega) ?_
  refine g_setv (fun s1 es1 => ?_)
  have hLs1 : cwL 250 s1 (upd S (17 + 16 * v + a) (S (17 + 16 * v + b))) := by rw [es1]; exact hL.wtab (by omega) (by omega)
  have hDs1 : cwD 200 s1 (upd S (17 + 16 * v + a) (S (17 + 16 * v + b))) := by rw [es1]; exact hD.life (by omega) (by unfold noLand; omega)
  refine g_pure 3 (i' := 18) (lv' := [some (vR 250), some (vI (nI v)), some (vI (nI a)), some (vI (nI b)), some (vR (262 + v)), some (vI (S (17 + 16 * v + a)))]) (st' := [vI (S (17 + 16 * v + a)), vI (nI b), vR (262 + v)]) rfl ?_
  refine g_ast rfl (gA_251 (by omega)) (by decide) (show nI b = nI b from (rfl : nI b = nI b)) (by omega) ?_
  refine g_setv (fun s2 es2 => ?_)
  have hLs2 : cwL 250 s2 (upd (upd S (17 + 16 * v + a) (S (17 + 16 * v + b))) (17 + 16 * v + b) (S (17 + 16 * v + a))) := by rw [es2]; exact hLs1.wtab (by omega) (by omega)
  have hDs2 : cwD 200 s2 (upd (upd S (17 + 16 * v + a) (S (17 + 16 * v + b))) (17 + 16 * v + b) (S (17 + 16 * v + a))) := by rw [es2]; exact hDs1.life (by omega) (by unfold noLand; omega)
  refine g_vret rfl ?_
  exact o1 s1 es1 s2 es2 hLs2 hDs2

theorem b_218_0 {X : Nat × (Nat → Int32)} {d : Nat} {p : Nat → Nat} {sg : Mg} {Q : am_R → Prop} {B : Nat} {S : Nat → Int32} (hI : Inv B S) (hS : sg 801 = S) {v : Nat} {a : Nat} {b : Nat} (u_v : v ≤ 5) (u_a : a ≤ 15) (u_b : b ≤ 15)
    (o1 : ∀ s1 : Mg, s1 = mu sg 801 (17 + 16 * v + a) (S (17 + 16 * v + b)) → ∀ s2 : Mg, s2 = mu s1 801 (17 + 16 * v + b) (S (17 + 16 * v + a)) → s2 801 = (upd (upd S (17 + 16 * v + a) (S (17 + 16 * v + b))) (17 + 16 * v + b) (S (17 + 16 * v + a))) → Q (gR0 p s2)) :
    gW X (d + 1) k_218 0 [some (vR 800), some (vI (nI v)), some (vI (nI a)), some (vI (nI b)), none] [] p sg Q := by
  have b0 := hI.b0; have b1 := hI.b1; have b2 := hI.b2; have b3 := hI.b3; have b4 := hI.b4; have b5 := hI.b5; have b6 := hI.b6; have b7 := hI.b7; have b8 := hI.b8; have b9 := hI.b9; have b14 := hI.b14
  refine g_pure 3 (i' := 3) (lv' := [some (vR 800), some (vI (nI v)), some (vI (nI a)), some (vI (nI b)), none]) (st' := [vI (nI a), vI (nI v), vR 800]) rfl ?_
  refine g_cV1 rfl (args := [vR 800, vI (nI v), vI (nI a)]) (rest := []) rfl rfl rfl (s_217 (d := d) hS (by omega) (by omega)) ?_
  refine g_pure 13 (i' := 17) (lv' := [some (vR 800), some (vI (nI v)), some (vI (nI a)), some (vI (nI b)), some (vI (S (17 + 16 * v + a)))]) (st' := [vI (nI b), vI (nI v), vR 800, vI ((17 + (16 * nI v)) + nI a), vR 801]) rfl ?_
  refine gW_eq (lv' := [some (vR 800), some (vI (nI v)), some (vI (nI a)), some (vI (nI b)), some (vI (S (17 + 16 * v + a)))]) (st' := [vI (nI b), vI (nI v), vR 800, vI (nI (17 + 16 * v + a)), vR 801]) rfl (by rw [(show ((17 + (16 * nI v)) + nI a) = nI (17 + 16 * v + a) from ((g_add (g_add (show (17 : Int32) = nI 17 from rfl) (g_mul (show (16 : Int32) = nI 16 from rfl) (rfl : nI v = nI v))) (rfl : nI a = nI a))).trans (congrArg nI (by omega)))]) rfl ?_
  refine g_cV1 rfl (args := [vR 800, vI (nI v), vI (nI b)]) (rest := [vI (nI (17 + 16 * v + a)), vR 801]) rfl rfl rfl (s_217 (d := d) hS (by omega) (by omega)) ?_
  refine g_ast rfl (g_A (a := 801) (kd := 1) (n := 2407) rfl (by decide)) (by decide) (show nI (17 + 16 * v + a) = nI (17 + 16 * v + a) from (rfl : nI (17 + 16 * v + a) = nI (17 + 16 * v + a))) (by omega) ?_
  refine g_setv (fun s1 es1 => ?_)
  have hSs1 : s1 801 = upd S (17 + 16 * v + a) (S (17 + 16 * v + b)) := by rw [es1, mu_row, hS]
  refine g_pure 10 (i' := 29) (lv' := [some (vR 800), some (vI (nI v)), some (vI (nI a)), some (vI (nI b)), some (vI (S (17 + 16 * v + a)))]) (st' := [vI (S (17 + 16 * v + a)), vI ((17 + (16 * nI v)) + nI b), vR 801]) rfl ?_
  refine gW_eq (lv' := [some (vR 800), some (vI (nI v)), some (vI (nI a)), some (vI (nI b)), some (vI (S (17 + 16 * v + a)))]) (st' := [vI (S (17 + 16 * v + a)), vI (nI (17 + 16 * v + b)), vR 801]) rfl (by rw [(show ((17 + (16 * nI v)) + nI b) = nI (17 + 16 * v + b) from ((g_add (g_add (show (17 : Int32) = nI 17 from rfl) (g_mul (show (16 : Int32) = nI 16 from rfl) (rfl : nI v = nI v))) (rfl : nI b = nI b))).trans (congrArg nI (by omega)))]) rfl ?_
  refine g_ast rfl (g_A (a := 801) (kd := 1) (n := 2407) rfl (by decide)) (by decide) (show nI (17 + 16 * v + b) = nI (17 + 16 * v + b) from (rfl : nI (17 + 16 * v + b) = nI (17 + 16 * v + b))) (by omega) ?_
  refine g_setv (fun s2 es2 => ?_)
  have hSs2 : s2 801 = upd (upd S (17 + 16 * v + a) (S (17 + 16 * v + b))) (17 + 16 * v + b) (S (17 + 16 * v + a)) := by rw [es2, mu_row, hSs1]
  refine g_vret rfl ?_
  exact o1 s1 es1 s2 es2 hSs2

/-- what dawns may write -/
def DF (sg s : Mg) : Prop := ∀ c, c ≠ 6 → c ≠ 7 → c ≠ 201 → c ≠ 213 → (c < 250 ∨ 268 ≤ c) → s c = sg c
/-- what misprints and arrivals may write: the life alone -/
def DG (sg s : Mg) : Prop := ∀ c, (c < 250 ∨ 268 ≤ c) → s c = sg c
theorem DG.rf (sg : Mg) : DG sg sg := fun _ _ => rfl
theorem DG.tr {a b c : Mg} (h : DG a b) (g : DG b c) : DG a c := fun x h5 => (g x h5).trans (h x h5)
theorem DG.df {a b : Mg} (h : DG a b) : DF a b := fun x _ _ _ _ h5 => h x h5
theorem DF.rf (sg : Mg) : DF sg sg := fun _ _ _ _ _ _ => rfl
theorem DF.tr {a b c : Mg} (h : DF a b) (g : DF b c) : DF a c := fun x h1 h2 h3 h4 h5 => (g x h1 h2 h3 h4 h5).trans (h x h1 h2 h3 h4 h5)
/-- the class's life and land -/
def CS (s : Mg) (S : Nat → Int32) : Prop := cwL 250 s S ∧ cwD 200 s S
/-- one more thing of the village v -/
def mpS (S : Nat → Int32) (v : Nat) : Nat → Int32 := if dS S 15 ≤ nI (dv (nxS S) % 100) then dS S else swS (dS (dS (dS S))) v (dv (nxS (dS S)) % sn S 9) (dv (nxS (dS (dS S))) % sn S 9)
def mpA (S : Nat → Int32) : Nat → Nat → Int32
  | 0 => S
  | v + 1 => mpS (mpA S v) v
theorem sn_dS {S : Nat → Int32} {i : Nat} (h : i ≠ 16) : sn (dS S) i = sn S i := sn_eq (dS_ne h)
theorem mpS_ne {S : Nat → Int32} {v i : Nat} (h : i < 16 ∨ 113 ≤ i) (hv : v < 6) (h9 : 0 < sn S 9) (h16 : sn S 9 ≤ 16) : mpS S v i = S i := by
  have m1 := Nat.mod_lt (dv (nxS (dS S))) h9
  have m2 := Nat.mod_lt (dv (nxS (dS (dS S)))) h9
  unfold mpS
  split
  · exact dS_ne (by omega)
  · rw [swS_ne (by omega) (by omega), dS_ne (by omega), dS_ne (by omega), dS_ne (by omega)]
theorem Inv.mpI {B : Nat} {S : Nat → Int32} (hI : Inv B S) {v : Nat} (hv : v < sn S 0) : Inv B (mpS S v) := by
  have b9 := hI.b9
  have m1 := Nat.mod_lt (dv (nxS (dS S))) (show 0 < sn S 9 by omega)
  have m2 := Nat.mod_lt (dv (nxS (dS (dS S)))) (show 0 < sn S 9 by omega)
  show Inv B (if dS S 15 ≤ nI (dv (nxS S) % 100) then dS S else swS (dS (dS (dS S))) v (dv (nxS (dS S)) % sn S 9) (dv (nxS (dS (dS S))) % sn S 9))
  split
  · exact hI.drI
  · refine hI.drI.drI.drI.swI ?_ ?_ ?_
    · rw [sn_dS (by decide), sn_dS (by decide), sn_dS (by decide)]; exact hv
    · rw [sn_dS (by decide), sn_dS (by decide), sn_dS (by decide)]; exact m1
    · rw [sn_dS (by decide), sn_dS (by decide), sn_dS (by decide)]; exact m2

theorem mpA_inv {B : Nat} {S : Nat → Int32} (hI : Inv B S) : ∀ v, v ≤ sn S 0 → Inv B (mpA S v) ∧ ∀ i, (i < 16 ∨ 113 ≤ i) → mpA S v i = S i
  | 0, _ => ⟨hI, fun _ _ => rfl⟩
  | v + 1, h => by
    have b0 := hI.b0
    obtain ⟨h1, h2⟩ := mpA_inv hI v (by omega)
    have b9 := h1.b9
    refine ⟨h1.mpI (by rw [sn_eq (h2 0 (by omega))]; omega), fun i hi => ?_⟩
    show mpS (mpA S v) v i = S i
    rw [mpS_ne hi (by omega) (by omega) b9.2, h2 i hi]
theorem s_27 {X : Nat × (Nat → Int32)} {d : Nat} {p : Nat → Nat} {sg : Mg} {B : Nat} {S : Nat → Int32} (hI : Inv B S) (hL : cwL 250 sg S) (hD : cwD 200 sg S) : gF X (d + 1) 27 [vR 6] p sg (fun r => ∃ s, (DG sg s ∧ CS s (dS S)) ∧ r = gRv p s (nI (dv (nxS S)))) :=
  g_in (cd := k_27) (nL := 1) (rc := 3) rfl (g_A (a := 6) (kd := 0) (n := 2) rfl (by decide)) (g_c1 rfl) (b_27_0 hI hL hD (fun s1 e1 h1 h2 => ⟨s1, ⟨fun c hc => by rw [e1, mu_ne (by omega)], h1, h2⟩, by rw [dv_u]; rfl⟩))
theorem s_265 {X : Nat × (Nat → Int32)} {d : Nat} {p : Nat → Nat} {sg : Mg} {n : Nat} (h1 : 1 ≤ n) (h2 : n ≤ 100) : gF X (d + 1) 265 [vR 800, vI (nI n)] p sg (fun r => r = gRv p (va_up sg 801 (dS (sg 801))) (nI (dv (nxS (sg 801)) % n))) := by
  have hx : ((1103515245 * (sg 801) 16 + 12345) >>> ((16 : Int32) &&& 31)) &&& 32767 = nI (dv (nxS (sg 801))) := dv_s _
  have hl := dv_lt (nxS (sg 801))
  refine g_in (cd := k_265) (nL := 2) (rc := 13) rfl (g_A (a := 800) (kd := 0) (n := 12) rfl (by decide)) (g_c1 rfl) (b_265_0 (S := sg 801) rfl h2 h1 (fun s1 _ => nI_ne0 (by omega) (by omega)) (fun s1 e1 _ => ?_))
  rw [hx, g_modN rfl rfl (by omega) (by omega) (by omega), e1]
  rfl
theorem s_56 {X : Nat × (Nat → Int32)} {d : Nat} {p : Nat → Nat} {sg : Mg} {B : Nat} {S : Nat → Int32} (hI : Inv B S) (hL : cwL 250 sg S) (hD : cwD 200 sg S) {v a b : Nat} (hv : v ≤ 5) (ha : a ≤ 15) (hb : b ≤ 15) : gF X (d + 1) 56 [vR 250, vI (nI v), vI (nI a), vI (nI b)] p sg (fun r => ∃ s, (DG sg s ∧ CS s (swS S v a b)) ∧ r = gR0 p s) :=
  g_in (cd := k_56) (nL := 6) (rc := 7) rfl (g_A (a := 250) (kd := 0) (n := 6) rfl (by decide)) (g_c1 rfl) (b_56_0 hI hL hD hv ha hb (fun s1 e1 s2 e2 h1 h2 => ⟨s2, ⟨fun c hc => by rw [e2, mu_ne (by omega), e1, mu_ne (by omega)], h1, h2⟩, rfl⟩))
theorem s_218 {X : Nat × (Nat → Int32)} {d : Nat} {p : Nat → Nat} {sg : Mg} {B : Nat} {S : Nat → Int32} (hI : Inv B S) (hS : sg 801 = S) {v a b : Nat} (hv : v ≤ 5) (ha : a ≤ 15) (hb : b ≤ 15) : gF X (d + 2) 218 [vR 800, vI (nI v), vI (nI a), vI (nI b)] p sg (fun r => r = gR0 p (va_up sg 801 (swS S v a b))) :=
  g_in (cd := k_218) (nL := 5) (rc := 13) rfl (g_A (a := 800) (kd := 0) (n := 12) rfl (by decide)) (g_c1 rfl) (b_218_0 hI hS hv ha hb (fun s1 e1 s2 e2 _ => by
    rw [e2, e1]
    unfold mu
    rw [va_up2, va_up_self, hS]
    rfl))
/-- the class's misprints -/
theorem s_26 {X : Nat × (Nat → Int32)} {d : Nat} {p : Nat → Nat} {sg : Mg} {B : Nat} {S : Nat → Int32} (hI : Inv B S) (hL : cwL 250 sg S) (hD : cwD 200 sg S) : gF X (d + 3) 26 [vR 6] p sg (fun r => ∃ s, (DG sg s ∧ CS s (mpA S (sn S 0))) ∧ r = gR0 p s) := by
  have b0 := hI.b0
  refine g_in (cd := k_26) (nL := 4) (rc := 3) rfl (g_A (a := 6) (kd := 0) (n := 2) rfl (by decide)) (g_c1 rfl) ?_
  show gW X (d + 2) k_26 0 [some (vR 6), none, none, none] [] p sg _
  refine g_pure 2 (i' := 2) (lv' := [some (vR 6), some (vI (nI 0)), none, none]) (st' := []) rfl ?_
  have key := g_upI (P := fun v => ∀ s z2 z3, DG sg s → CS s (mpA S v) → gW X (d + 2) k_26 2 [some (vR 6), some (vI (nI v)), z2, z3] [] p s (fun r => ∃ s, (DG sg s ∧ CS s (mpA S (sn S 0))) ∧ r = gR0 p s)) (I := fun _ => True) (n := sn S 0) (a := 0) (by omega) trivial ?_ ?_
  · exact key sg none none (DG.rf _) ⟨hL, hD⟩
  · intro v _ hv _ ih s z2 z3 hs hc
    have ih := ih trivial
    obtain ⟨hT, hT2⟩ := mpA_inv hI v (by omega)
    rw [show mpA S (v + 1) = mpS (mpA S v) v from rfl] at ih
    have t0 : sn (mpA S v) 0 = sn S 0 := sn_eq (hT2 0 (by omega))
    generalize mpA S v = T at hc hT t0 ih
    have b9 := hT.b9
    refine g_pure 5 (i' := 7) (lv' := [some (vR 6), some (vI (nI v)), z2, z3]) (st' := [vI 0, vR 203, vI (nI v)]) rfl ?_
    refine g_ald rfl (g_A (a := 203) (kd := 1) (n := 6) rfl (by decide)) (by decide) (show (0 : Int32) = nI 0 from rfl) (by decide) ((hc.2.cnt (by decide)).trans hT.c0) ?_
    refine g_if2 (i' := 37) (P := sn T 0 ≤ v) rfl rfl (g_geN rfl rfl (by omega) (by omega)) (fun h => by omega) (fun _ => ?_)
    refine g_pure 1 (i' := 10) (lv' := [some (vR 6), some (vI (nI v)), z2, z3]) (st' := [vR 6]) rfl ?_
    refine g_cV1E rfl (args := [vR 6]) (rest := []) rfl rfl rfl (s_27 (d := d + 1) hT hc.1 hc.2) (fun s1 h1 => ?_)
    have l1 := dv_lt (nxS T)
    refine g_pure 1 (i' := 12) (lv' := [some (vR 6), some (vI (nI v)), z2, z3]) (st' := [vI 100, vI (nI (dv (nxS T)))]) rfl ?_
    refine g_rem rfl (by decide) ?_
    refine g_pure 2 (i' := 15) (lv' := [some (vR 6), some (vI (nI v)), z2, z3]) (st' := [vR 202, vI (nI (dv (nxS T)) - nI (dv (nxS T)) / 100 * 100)]) rfl ?_
    refine g_getI rfl (g_A (a := 202) (kd := 0) (n := 3) rfl (by decide)) h1.2.2.f7 ?_
    refine gW_eq (st' := [vI (dS T 15), vI (nI (dv (nxS T) % 100))]) rfl (by rw [g_modN rfl (show (100 : Int32) = nI 100 from rfl) (by omega) (by omega) (by omega)]) rfl ?_
    refine g_if2 (i' := 35) (P := dS T 15 ≤ nI (dv (nxS T) % 100)) rfl rfl Iff.rfl (fun h => ?_) (fun h => ?_)
    · refine g_pure 2 (i' := 2) (lv' := [some (vR 6), some (vI (nI v + 1)), z2, z3]) (st' := []) rfl ?_
      refine gW_eq (lv' := [some (vR 6), some (vI (nI (v + 1))), z2, z3]) (by rw [nI_succ]) rfl rfl ?_
      refine ih s1 _ _ (hs.tr h1.1) ?_
      unfold mpS
      rw [if_pos h]
      exact h1.2
    · have l2 := dv_lt (nxS (dS T))
      have l3 := dv_lt (nxS (dS (dS T)))
      refine g_pure 3 (i' := 20) (lv' := [some (vR 6), some (vI (nI v)), z2, z3]) (st' := [vR 6, vR 202]) rfl ?_
      refine g_cV1E rfl (args := [vR 6]) (rest := [vR 202]) rfl rfl rfl (s_27 (d := d + 1) hT.drI h1.2.1 h1.2.2) (fun s2 h2 => ?_)
      refine g_cV1 rfl (args := [vR 202, vI (nI (dv (nxS (dS T))))]) (rest := []) rfl rfl rfl (s_37n (d := d) hT.drI.drI h2.2.1 h2.2.2 (by omega)) ?_
      refine g_pure 4 (i' := 26) (lv' := [some (vR 6), some (vI (nI v)), some (vI (nI (dv (nxS (dS T)) % sn (dS (dS T)) 9))), z3]) (st' := [vR 6, vR 202]) rfl ?_
      refine g_cV1E rfl (args := [vR 6]) (rest := [vR 202]) rfl rfl rfl (s_27 (d := d + 1) hT.drI.drI h2.2.1 h2.2.2) (fun s3 h3 => ?_)
      refine g_cV1 rfl (args := [vR 202, vI (nI (dv (nxS (dS (dS T)))))]) (rest := []) rfl rfl rfl (s_37n (d := d) hT.drI.drI.drI h3.2.1 h3.2.2 (by omega)) ?_
      rw [sn_dS (by decide), sn_dS (by decide), sn_dS (by decide)]
      have m1 := Nat.mod_lt (dv (nxS (dS T))) (show 0 < sn T 9 by omega)
      have m2 := Nat.mod_lt (dv (nxS (dS (dS T)))) (show 0 < sn T 9 by omega)
      refine g_pure 6 (i' := 34) (lv' := [some (vR 6), some (vI (nI v)), some (vI (nI (dv (nxS (dS T)) % sn T 9))), some (vI (nI (dv (nxS (dS (dS T))) % sn T 9)))]) (st' := [vI (nI (dv (nxS (dS (dS T))) % sn T 9)), vI (nI (dv (nxS (dS T)) % sn T 9)), vI (nI v), vR 250]) rfl ?_
      refine g_cV0E rfl (args := [vR 250, vI (nI v), vI (nI (dv (nxS (dS T)) % sn T 9)), vI (nI (dv (nxS (dS (dS T))) % sn T 9))]) (rest := []) rfl rfl rfl (s_56 (d := d + 1) hT.drI.drI.drI h3.2.1 h3.2.2 (by omega) (by omega) (by omega)) (fun s4 h4 => ?_)
      refine g_pure 2 (i' := 2) (lv' := [some (vR 6), some (vI (nI v + 1)), some (vI (nI (dv (nxS (dS T)) % sn T 9))), some (vI (nI (dv (nxS (dS (dS T))) % sn T 9)))]) (st' := []) rfl ?_
      refine gW_eq (lv' := [some (vR 6), some (vI (nI (v + 1))), some (vI (nI (dv (nxS (dS T)) % sn T 9))), some (vI (nI (dv (nxS (dS (dS T))) % sn T 9)))]) (by rw [nI_succ]) rfl rfl ?_
      refine ih s4 _ _ (((hs.tr h1.1).tr h2.1).tr (h3.1.tr h4.1)) ?_
      unfold mpS
      rw [if_neg h]
      exact h4.2
  · intro _ s z2 z3 hs hc
    obtain ⟨hT, hT2⟩ := mpA_inv hI (sn S 0) (Nat.le_refl _)
    have t0 : sn (mpA S (sn S 0)) 0 = sn S 0 := sn_eq (hT2 0 (by omega))
    refine g_pure 5 (i' := 7) (lv' := [some (vR 6), some (vI (nI (sn S 0))), z2, z3]) (st' := [vI 0, vR 203, vI (nI (sn S 0))]) rfl ?_
    refine g_ald rfl (g_A (a := 203) (kd := 1) (n := 6) rfl (by decide)) (by decide) (show (0 : Int32) = nI 0 from rfl) (by decide) ((hc.2.cnt (by decide)).trans hT.c0) ?_
    refine g_if2 (i' := 37) (P := sn (mpA S (sn S 0)) 0 ≤ sn S 0) rfl rfl (g_geN rfl rfl (by omega) (by omega)) (fun _ => ?_) (fun h => by omega)
    exact g_vret rfl ⟨s, ⟨hs, hc⟩, rfl⟩
