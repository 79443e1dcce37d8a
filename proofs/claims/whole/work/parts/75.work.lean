/-! WORK, TELL, DAWNS (made by wip/whole/gen75.py) -/
abbrev wkOK (S : Nat → Int32) (k t : Nat) : Prop := S (113 + 6 * k) = S (269 + 5 * t) ∧ sn S (17 + 16 * sn S (269 + 5 * t) + sn S 8 % sn S 9) = sn S (269 + 5 * t + 1) ∧ dnP S t = false ∧ (S (269 + 5 * t + 2) = -1 ∨ dnP S (sn S (269 + 5 * t + 2)) = true)
theorem dn_iff {B : Nat} {S : Nat → Int32} (hI : Inv B S) {t : Nat} (ht : t < sn S 5) : S (269 + 5 * t + 3) = -1 ↔ dnP S t = false := by
  have b1 := hI.b1
  unfold dnP
  rcases (hI.tas ht).2.2.2 with h | h
  · rw [h.1]; decide
  · have := h.1.2
    rw [h.1.1]
    exact ⟨fun h9 => absurd h9 (nI_m1 (by omega)), fun h9 => absurd (of_decide_eq_false h9) (fun h8 => h8 (nI_pos' (by omega)))⟩
theorem dn_not {b : Bool} (h : ¬ b = false) : b = true := by cases b <;> simp_all

theorem b_117_vf {X : Nat × (Nat → Int32)} {d : Nat} {p : Nat → Nat} {sg : Mg} {Q : am_R → Prop} {B : Nat} {S : Nat → Int32} (hI : Inv B S) (hL : cwL 250 sg S) (hD : cwD 200 sg S) {v f : Nat} {k : Nat} {t : Nat} (u_k : k ≤ 7) (u_t : t ≤ 7) (q1 : k < sn S 1) (q2 : t < sn S 5) (q3 : v < sn S 0) (q4 : f < t) (hv : S (113 + 6 * k) = nI v) (hf : S (269 + 5 * t + 2) = nI f)
    (o1 : (¬ S (269 + 5 * t + 3) = (-1)) → Q (gRv p sg 0))
    (o2 : (S (269 + 5 * t + 3) = (-1)) → (v = sn S (269 + 5 * t)) → (S (269 + 5 * f + 3) = (-1)) → Q (gRv p sg 0))
    (o3 : (S (269 + 5 * t + 3) = (-1)) → (v = sn S (269 + 5 * t)) → (¬ (S (269 + 5 * f + 3) = (-1))) → (¬ sn S (17 + 16 * v + ((sn S 8) % sn S 9)) = sn S (269 + 5 * t + 1)) → Q (gRv p sg 0))
    (o4 : (S (269 + 5 * t + 3) = (-1)) → (v = sn S (269 + 5 * t)) → (¬ (S (269 + 5 * f + 3) = (-1))) → (sn S (17 + 16 * v + ((sn S 8) % sn S 9)) = sn S (269 + 5 * t + 1)) → Q (gRv p sg 1))
    (o5 : (S (269 + 5 * t + 3) = (-1)) → (¬ (v = sn S (269 + 5 * t))) → Q (gRv p sg 0)) :
    gW X (d + 4) k_117 0 [some (vR 200), some (vI (nI k)), some (vI (nI t)), none, none, none] [] p sg Q := by
  have b0 := hI.b0; have b1 := hI.b1; have b2 := hI.b2; have b3 := hI.b3; have b4 := hI.b4; have b5 := hI.b5; have b6 := hI.b6; have b7 := hI.b7; have b8 := hI.b8; have b9 := hI.b9; have b14 := hI.b14
  refine g_pure 4 (i' := 4) (lv' := [some (vR 200), some (vI (nI k)), some (vI (nI t)), none, none, none]) (st' := [vI (nI t), vR 207]) rfl ?_
  refine g_aald rfl (Or.inl rfl) (g_A (a := 207) (kd := 5) (n := 8) rfl (by decide)) (by decide) (show nI t = nI t from (rfl : nI t = nI t)) (by omega) (gR_207 (by omega)) ?_
  refine g_pure 5 (i' := 10) (lv' := [some (vR 200), some (vI (nI k)), some (vI (nI t)), some (vR (242 + t)), none, none]) (st' := [vI (nI k), vR 252]) rfl ?_
  refine g_ald rfl (g_A (a := 252) (kd := 1) (n := 8) rfl (by decide)) (by decide) (show nI k = nI k from (rfl : nI k = nI k)) (by omega) (show _ = nI v from ((hL.per 0 (by decide) (by omega))).trans hv) ?_
  refine g_pure 5 (i' := 16) (lv' := [some (vR 200), some (vI (nI k)), some (vI (nI t)), some (vR (242 + t)), some (vI (nI v)), none]) (st' := [vI (nI t), vR 259]) rfl ?_
  refine g_ald rfl (g_A (a := 259) (kd := 1) (n := 8) rfl (by decide)) (by decide) (show nI t = nI t from (rfl : nI t = nI t)) (by omega) (show _ = S (269 + 5 * t + 3) from (hL.don 0 (by decide) (by omega))) ?_
  refine g_pure 1 (i' := 18) (lv' := [some (vR 200), some (vI (nI k)), some (vI (nI t)), some (vR (242 + t)), some (vI (nI v)), none]) (st' := [vI (-1), vI (S (269 + 5 * t + 3))]) rfl ?_
  refine g_if2 (i' := 27) (P := ¬ S (269 + 5 * t + 3) = (-1)) rfl rfl Iff.rfl (fun h1 => ?_) (fun h1 => ?_)
  · refine g_pure 1 (i' := 28) (lv' := [some (vR 200), some (vI (nI k)), some (vI (nI t)), some (vR (242 + t)), some (vI (nI v)), none]) (st' := [vI 0]) rfl ?_
    refine g_bret rfl g_nar0 ?_
    exact o1 h1
  · have h1 := Classical.not_not.mp h1
    refine g_pure 2 (i' := 21) (lv' := [some (vR 200), some (vI (nI k)), some (vI (nI t)), some (vR (242 + t)), some (vI (nI v)), none]) (st' := [vI (-1), vI (nI v)]) rfl ?_
    refine g_if2 (i' := 27) (P := nI v = (-1)) rfl rfl Iff.rfl (fun h2 => absurd h2 (nI_m1 (by omega))) (fun _ => ?_)
    refine g_pure 3 (i' := 25) (lv' := [some (vR 200), some (vI (nI k)), some (vI (nI t)), some (vR (242 + t)), some (vI (nI v)), none]) (st' := [vI 0, vR (242 + t), vI (nI v)]) rfl ?_
    refine g_ald rfl (gA_207 (by omega)) (by decide) (show 0 = nI 0 from (show (0 : Int32) = nI 0 from rfl)) (by decide) (show _ = S (269 + 5 * t) from (hD.tas 0 (by omega) (by decide))) ?_
    have t3 := (hI.tas (k := t) (by omega)).1
    have t3b := t3.2
    refine g_if2 (i' := 29) (P := v = sn S (269 + 5 * t)) rfl rfl (g_eqN (show nI v = nI v from (rfl : nI v = nI v)) (show S (269 + 5 * t) = nI (sn S (269 + 5 * t)) from t3.1) (by omega) (by omega)) (fun h4 => ?_) (fun h4 => ?_)
    · refine g_pure 2 (i' := 31) (lv' := [some (vR 200), some (vI (nI k)), some (vI (nI t)), some (vR (242 + t)), some (vI (nI v)), none]) (st' := [vI 2, vR (242 + t)]) rfl ?_
      refine g_ald rfl (gA_207 (by omega)) (by decide) (show 2 = nI 2 from (show (2 : Int32) = nI 2 from rfl)) (by decide) (show _ = nI f from ((hD.tas 2 (by omega) (by decide))).trans hf) ?_
      refine g_pure 1 (i' := 33) (lv' := [some (vR 200), some (vI (nI k)), some (vI (nI t)), some (vR (242 + t)), some (vI (nI v)), none]) (st' := [vI (-1), vI (nI f)]) rfl ?_
      refine g_if2 (i' := 43) (P := nI f = (-1)) rfl rfl Iff.rfl (fun h5 => absurd h5 (nI_m1 (by omega))) (fun _ => ?_)
      refine g_pure 5 (i' := 39) (lv' := [some (vR 200), some (vI (nI k)), some (vI (nI t)), some (vR (242 + t)), some (vI (nI v)), none]) (st' := [vI 2, vR (242 + t), vR 259]) rfl ?_
      refine g_ald rfl (gA_207 (by omega)) (by decide) (show 2 = nI 2 from (show (2 : Int32) = nI 2 from rfl)) (by decide) (show _ = nI f from ((hD.tas 2 (by omega) (by decide))).trans hf) ?_
      refine g_ald rfl (g_A (a := 259) (kd := 1) (n := 8) rfl (by decide)) (by decide) (show nI f = nI f from (rfl : nI f = nI f)) (by omega) (show _ = S (269 + 5 * f + 3) from (hL.don 0 (by decide) (by omega))) ?_
      refine g_pure 1 (i' := 42) (lv' := [some (vR 200), some (vI (nI k)), some (vI (nI t)), some (vR (242 + t)), some (vI (nI v)), none]) (st' := [vI (-1), vI (S (269 + 5 * f + 3))]) rfl ?_
      refine g_if2 (i' := 45) (P := S (269 + 5 * f + 3) = (-1)) rfl rfl Iff.rfl (fun h6 => ?_) (fun h6 => ?_)
      · refine g_pure 3 (i' := 48) (lv' := [some (vR 200), some (vI (nI k)), some (vI (nI t)), some (vR (242 + t)), some (vI (nI v)), some (vI 0)]) (st' := [vI 0]) rfl ?_
        refine g_if1 (i' := 61) (P := 0 = 0) rfl rfl (g_eqN (show 0 = nI 0 from (show (0 : Int32) = nI 0 from rfl)) (show 0 = nI 0 from (show (0 : Int32) = nI 0 from rfl)) (by omega) (by omega)) (fun _ => ?_) (fun h7 => absurd (by omega) h7)
        refine g_pure 1 (i' := 62) (lv' := [some (vR 200), some (vI (nI k)), some (vI (nI t)), some (vR (242 + t)), some (vI (nI v)), some (vI 0)]) (st' := [vI 0]) rfl ?_
        refine g_bret rfl g_nar0 ?_
        exact o2 h1 h4 h6
      · refine g_pure 4 (i' := 48) (lv' := [some (vR 200), some (vI (nI k)), some (vI (nI t)), some (vR (242 + t)), some (vI (nI v)), some (vI 1)]) (st' := [vI 1]) rfl ?_
        refine g_if1 (i' := 61) (P := 1 = 0) rfl rfl (g_eqN (show 1 = nI 1 from (show (1 : Int32) = nI 1 from rfl)) (show 0 = nI 0 from (show (0 : Int32) = nI 0 from rfl)) (by omega) (by omega)) (fun h8 => absurd h8 (by omega)) (fun _ => ?_)
        refine g_pure 4 (i' := 53) (lv' := [some (vR 200), some (vI (nI k)), some (vI (nI t)), some (vR (242 + t)), some (vI (nI v)), some (vI 1)]) (st' := [vR 250, vI (nI v), vR 200]) rfl ?_
        refine g_getI rfl (g_A (a := 250) (kd := 0) (n := 6) rfl (by decide)) (show _ = S 8 from hL.f12) ?_
        refine gW_eq (st' := [vI (nI (sn S 8)), vI (nI v), vR 200]) rfl (by rw [(show S 8 = nI (sn S 8) from (hI.c8))]) rfl ?_
        refine g_cV1 rfl (args := [vR 200, vI (nI v), vI (nI (sn S 8))]) (rest := []) rfl rfl rfl (s_110 (d := d + 1) hI hL hD (by omega) (by omega)) ?_
        have t9 := Nat.mod_lt ((sn S 8)) (y := sn S 9) (by omega)
        refine g_pure 2 (i' := 57) (lv' := [some (vR 200), some (vI (nI k)), some (vI (nI t)), some (vR (242 + t)), some (vI (nI v)), some (vI 1)]) (st' := [vI 1, vR (242 + t), vI (S (17 + 16 * v + ((sn S 8) % sn S 9)))]) rfl ?_
        refine g_ald rfl (gA_207 (by omega)) (by decide) (show 1 = nI 1 from (show (1 : Int32) = nI 1 from rfl)) (by decide) (show _ = S (269 + 5 * t + 1) from (hD.tas 1 (by omega) (by decide))) ?_
        have t10 := hI.tbb (v := v) (q := (sn S 8) % sn S 9) (by omega) (by omega)
        have t11 := (hI.tas (k := t) (by omega)).2.1
        have t11b := t11.2
        refine g_if2 (i' := 61) (P := ¬ sn S (17 + 16 * v + ((sn S 8) % sn S 9)) = sn S (269 + 5 * t + 1)) rfl rfl (g_neN (show S (17 + 16 * v + ((sn S 8) % sn S 9)) = nI (sn S (17 + 16 * v + ((sn S 8) % sn S 9))) from (hI.tb (by omega) (by omega))) (show S (269 + 5 * t + 1) = nI (sn S (269 + 5 * t + 1)) from t11.1) (by omega) (by omega)) (fun h12 => ?_) (fun h12 => ?_)
        · refine g_pure 1 (i' := 62) (lv' := [some (vR 200), some (vI (nI k)), some (vI (nI t)), some (vR (242 + t)), some (vI (nI v)), some (vI 1)]) (st' := [vI 0]) rfl ?_
          refine g_bret rfl g_nar0 ?_
          exact o3 h1 h4 h6 h12
        · have h12 := Classical.not_not.mp h12
          refine g_pure 2 (i' := 62) (lv' := [some (vR 200), some (vI (nI k)), some (vI (nI t)), some (vR (242 + t)), some (vI (nI v)), some (vI 1)]) (st' := [vI 1]) rfl ?_
          refine g_bret rfl g_nar1 ?_
          exact o4 h1 h4 h6 h12
    · refine g_pure 1 (i' := 28) (lv' := [some (vR 200), some (vI (nI k)), some (vI (nI t)), some (vR (242 + t)), some (vI (nI v)), none]) (st' := [vI 0]) rfl ?_
      refine g_bret rfl g_nar0 ?_
      exact o5 h1 h4

theorem b_117_vx {X : Nat × (Nat → Int32)} {d : Nat} {p : Nat → Nat} {sg : Mg} {Q : am_R → Prop} {B : Nat} {S : Nat → Int32} (hI : Inv B S) (hL : cwL 250 sg S) (hD : cwD 200 sg S) {v : Nat} {k : Nat} {t : Nat} (u_k : k ≤ 7) (u_t : t ≤ 7) (q1 : k < sn S 1) (q2 : t < sn S 5) (q3 : v < sn S 0) (hv : S (113 + 6 * k) = nI v) (hf : S (269 + 5 * t + 2) = -1)
    (o1 : (¬ S (269 + 5 * t + 3) = (-1)) → Q (gRv p sg 0))
    (o2 : (S (269 + 5 * t + 3) = (-1)) → (v = sn S (269 + 5 * t)) → (¬ sn S (17 + 16 * v + ((sn S 8) % sn S 9)) = sn S (269 + 5 * t + 1)) → Q (gRv p sg 0))
    (o3 : (S (269 + 5 * t + 3) = (-1)) → (v = sn S (269 + 5 * t)) → (sn S (17 + 16 * v + ((sn S 8) % sn S 9)) = sn S (269 + 5 * t + 1)) → Q (gRv p sg 1))
    (o4 : (S (269 + 5 * t + 3) = (-1)) → (¬ (v = sn S (269 + 5 * t))) → Q (gRv p sg 0)) :
    gW X (d + 4) k_117 0 [some (vR 200), some (vI (nI k)), some (vI (nI t)), none, none, none] [] p sg Q := by
  have b0 := hI.b0; have b1 := hI.b1; have b2 := hI.b2; have b3 := hI.b3; have b4 := hI.b4; have b5 := hI.b5; have b6 := hI.b6; have b7 := hI.b7; have b8 := hI.b8; have b9 := hI.b9; have b14 := hI.b14
  refine g_pure 4 (i' := 4) (lv' := [some (vR 200), some (vI (nI k)), some (vI (nI t)), none, none, none]) (st' := [vI (nI t), vR 207]) rfl ?_
  refine g_aald rfl (Or.inl rfl) (g_A (a := 207) (kd := 5) (n := 8) rfl (by decide)) (by decide) (show nI t = nI t from (rfl : nI t = nI t)) (by omega) (gR_207 (by omega)) ?_
  refine g_pure 5 (i' := 10) (lv' := [some (vR 200), some (vI (nI k)), some (vI (nI t)), some (vR (242 + t)), none, none]) (st' := [vI (nI k), vR 252]) rfl ?_
  refine g_ald rfl (g_A (a := 252) (kd := 1) (n := 8) rfl (by decide)) (by decide) (show nI k = nI k from (rfl : nI k = nI k)) (by omega) (show _ = nI v from ((hL.per 0 (by decide) (by omega))).trans hv) ?_
  refine g_pure 5 (i' := 16) (lv' := [some (vR 200), some (vI (nI k)), some (vI (nI t)), some (vR (242 + t)), some (vI (nI v)), none]) (st' := [vI (nI t), vR 259]) rfl ?_
  refine g_ald rfl (g_A (a := 259) (kd := 1) (n := 8) rfl (by decide)) (by decide) (show nI t = nI t from (rfl : nI t = nI t)) (by omega) (show _ = S (269 + 5 * t + 3) from (hL.don 0 (by decide) (by omega))) ?_
  refine g_pure 1 (i' := 18) (lv' := [some (vR 200), some (vI (nI k)), some (vI (nI t)), some (vR (242 + t)), some (vI (nI v)), none]) (st' := [vI (-1), vI (S (269 + 5 * t + 3))]) rfl ?_
  refine g_if2 (i' := 27) (P := ¬ S (269 + 5 * t + 3) = (-1)) rfl rfl Iff.rfl (fun h1 => ?_) (fun h1 => ?_)
  · refine g_pure 1 (i' := 28) (lv' := [some (vR 200), some (vI (nI k)), some (vI (nI t)), some (vR (242 + t)), some (vI (nI v)), none]) (st' := [vI 0]) rfl ?_
    refine g_bret rfl g_nar0 ?_
    exact o1 h1
  · have h1 := Classical.not_not.mp h1
    refine g_pure 2 (i' := 21) (lv' := [some (vR 200), some (vI (nI k)), some (vI (nI t)), some (vR (242 + t)), some (vI (nI v)), none]) (st' := [vI (-1), vI (nI v)]) rfl ?_
    refine g_if2 (i' := 27) (P := nI v = (-1)) rfl rfl Iff.rfl (fun h2 => absurd h2 (nI_m1 (by omega))) (fun _ => ?_)
    refine g_pure 3 (i' := 25) (lv' := [some (vR 200), some (vI (nI k)), some (vI (nI t)), some (vR (242 + t)), some (vI (nI v)), none]) (st' := [vI 0, vR (242 + t), vI (nI v)]) rfl ?_
    refine g_ald rfl (gA_207 (by omega)) (by decide) (show 0 = nI 0 from (show (0 : Int32) = nI 0 from rfl)) (by decide) (show _ = S (269 + 5 * t) from (hD.tas 0 (by omega) (by decide))) ?_
    have t3 := (hI.tas (k := t) (by omega)).1
    have t3b := t3.2
    refine g_if2 (i' := 29) (P := v = sn S (269 + 5 * t)) rfl rfl (g_eqN (show nI v = nI v from (rfl : nI v = nI v)) (show S (269 + 5 * t) = nI (sn S (269 + 5 * t)) from t3.1) (by omega) (by omega)) (fun h4 => ?_) (fun h4 => ?_)
    · refine g_pure 2 (i' := 31) (lv' := [some (vR 200), some (vI (nI k)), some (vI (nI t)), some (vR (242 + t)), some (vI (nI v)), none]) (st' := [vI 2, vR (242 + t)]) rfl ?_
      refine g_ald rfl (gA_207 (by omega)) (by decide) (show 2 = nI 2 from (show (2 : Int32) = nI 2 from rfl)) (by decide) (show _ = (-1) from ((hD.tas 2 (by omega) (by decide))).trans hf) ?_
      refine g_pure 1 (i' := 33) (lv' := [some (vR 200), some (vI (nI k)), some (vI (nI t)), some (vR (242 + t)), some (vI (nI v)), none]) (st' := [vI (-1), vI (-1)]) rfl ?_
      refine g_if2 (i' := 43) (P := ((-1) : Int32) = (-1)) rfl rfl Iff.rfl (fun _ => ?_) (fun h5 => absurd (by decide) h5)
      refine g_pure 4 (i' := 48) (lv' := [some (vR 200), some (vI (nI k)), some (vI (nI t)), some (vR (242 + t)), some (vI (nI v)), some (vI 1)]) (st' := [vI 1]) rfl ?_
      refine g_if1 (i' := 61) (P := 1 = 0) rfl rfl (g_eqN (show 1 = nI 1 from (show (1 : Int32) = nI 1 from rfl)) (show 0 = nI 0 from (show (0 : Int32) = nI 0 from rfl)) (by omega) (by omega)) (fun h6 => absurd h6 (by omega)) (fun _ => ?_)
      refine g_pure 4 (i' := 53) (lv' := [some (vR 200), some (vI (nI k)), some (vI (nI t)), some (vR (242 + t)), some (vI (nI v)), some (vI 1)]) (st' := [vR 250, vI (nI v), vR 200]) rfl ?_
      refine g_getI rfl (g_A (a := 250) (kd := 0) (n := 6) rfl (by decide)) (show _ = S 8 from hL.f12) ?_
      refine gW_eq (st' := [vI (nI (sn S 8)), vI (nI v), vR 200]) rfl (by rw [(show S 8 = nI (sn S 8) from (hI.c8))]) rfl ?_
      refine g_cV1 rfl (args := [vR 200, vI (nI v), vI (nI (sn S 8))]) (rest := []) rfl rfl rfl (s_110 (d := d + 1) hI hL hD (by omega) (by omega)) ?_
      have t7 := Nat.mod_lt ((sn S 8)) (y := sn S 9) (by omega)
      refine g_pure 2 (i' := 57) (lv' := [some (vR 200), some (vI (nI k)), some (vI (nI t)), some (vR (242 + t)), some (vI (nI v)), some (vI 1)]) (st' := [vI 1, vR (242 + t), vI (S (17 + 16 * v + ((sn S 8) % sn S 9)))]) rfl ?_
      refine g_ald rfl (gA_207 (by omega)) (by decide) (show 1 = nI 1 from (show (1 : Int32) = nI 1 from rfl)) (by decide) (show _ = S (269 + 5 * t + 1) from (hD.tas 1 (by omega) (by decide))) ?_
      have t8 := hI.tbb (v := v) (q := (sn S 8) % sn S 9) (by omega) (by omega)
      have t9 := (hI.tas (k := t) (by omega)).2.1
      have t9b := t9.2
      refine g_if2 (i' := 61) (P := ¬ sn S (17 + 16 * v + ((sn S 8) % sn S 9)) = sn S (269 + 5 * t + 1)) rfl rfl (g_neN (show S (17 + 16 * v + ((sn S 8) % sn S 9)) = nI (sn S (17 + 16 * v + ((sn S 8) % sn S 9))) from (hI.tb (by omega) (by omega))) (show S (269 + 5 * t + 1) = nI (sn S (269 + 5 * t + 1)) from t9.1) (by omega) (by omega)) (fun h10 => ?_) (fun h10 => ?_)
      · refine g_pure 1 (i' := 62) (lv' := [some (vR 200), some (vI (nI k)), some (vI (nI t)), some (vR (242 + t)), some (vI (nI v)), some (vI 1)]) (st' := [vI 0]) rfl ?_
        refine g_bret rfl g_nar0 ?_
        exact o2 h1 h4 h10
      · have h10 := Classical.not_not.mp h10
        refine g_pure 2 (i' := 62) (lv' := [some (vR 200), some (vI (nI k)), some (vI (nI t)), some (vR (242 + t)), some (vI (nI v)), some (vI 1)]) (st' := [vI 1]) rfl ?_
        refine g_bret rfl g_nar1 ?_
        exact o3 h1 h4 h10
    · refine g_pure 1 (i' := 28) (lv' := [some (vR 200), some (vI (nI k)), some (vI (nI t)), some (vR (242 + t)), some (vI (nI v)), none]) (st' := [vI 0]) rfl ?_
      refine g_bret rfl g_nar0 ?_
      exact o4 h1 h4

theorem b_117_x {X : Nat × (Nat → Int32)} {d : Nat} {p : Nat → Nat} {sg : Mg} {Q : am_R → Prop} {B : Nat} {S : Nat → Int32} (hI : Inv B S) (hL : cwL 250 sg S) (hD : cwD 200 sg S) {k : Nat} {t : Nat} (u_k : k ≤ 7) (u_t : t ≤ 7) (q1 : k < sn S 1) (q2 : t < sn S 5) (hv : S (113 + 6 * k) = -1)
    (o1 : (¬ S (269 + 5 * t + 3) = (-1)) → Q (gRv p sg 0))
    (o2 : (S (269 + 5 * t + 3) = (-1)) → Q (gRv p sg 0)) :
    gW X (d + 4) k_117 0 [some (vR 200), some (vI (nI k)), some (vI (nI t)), none, none, none] [] p sg Q := by
  have b0 := hI.b0; have b1 := hI.b1; have b2 := hI.b2; have b3 := hI.b3; have b4 := hI.b4; have b5 := hI.b5; have b6 := hI.b6; have b7 := hI.b7; have b8 := hI.b8; have b9 := hI.b9; have b14 := hI.b14
  refine g_pure 4 (i' := 4) (lv' := [some (vR 200), some (vI (nI k)), some (vI (nI t)), none, none, none]) (st' := [vI (nI t), vR 207]) rfl ?_
  refine g_aald rfl (Or.inl rfl) (g_A (a := 207) (kd := 5) (n := 8) rfl (by decide)) (by decide) (show nI t = nI t from (rfl : nI t = nI t)) (by omega) (gR_207 (by omega)) ?_
  refine g_pure 5 (i' := 10) (lv' := [some (vR 200), some (vI (nI k)), some (vI (nI t)), some (vR (242 + t)), none, none]) (st' := [vI (nI k), vR 252]) rfl ?_
  refine g_ald rfl (g_A (a := 252) (kd := 1) (n := 8) rfl (by decide)) (by decide) (show nI k = nI k from (rfl : nI k = nI k)) (by omega) (show _ = (-1) from ((hL.per 0 (by decide) (by omega))).trans hv) ?_
  refine g_pure 5 (i' := 16) (lv' := [some (vR 200), some (vI (nI k)), some (vI (nI t)), some (vR (242 + t)), some (vI (-1)), none]) (st' := [vI (nI t), vR 259]) rfl ?_
  refine g_ald rfl (g_A (a := 259) (kd := 1) (n := 8) rfl (by decide)) (by decide) (show nI t = nI t from (rfl : nI t = nI t)) (by omega) (show _ = S (269 + 5 * t + 3) from (hL.don 0 (by decide) (by omega))) ?_
  refine g_pure 1 (i' := 18) (lv' := [some (vR 200), some (vI (nI k)), some (vI (nI t)), some (vR (242 + t)), some (vI (-1)), none]) (st' := [vI (-1), vI (S (269 + 5 * t + 3))]) rfl ?_
  refine g_if2 (i' := 27) (P := ¬ S (269 + 5 * t + 3) = (-1)) rfl rfl Iff.rfl (fun h1 => ?_) (fun h1 => ?_)
  · refine g_pure 1 (i' := 28) (lv' := [some (vR 200), some (vI (nI k)), some (vI (nI t)), some (vR (242 + t)), some (vI (-1)), none]) (st' := [vI 0]) rfl ?_
    refine g_bret rfl g_nar0 ?_
    exact o1 h1
  · have h1 := Classical.not_not.mp h1
    refine g_pure 2 (i' := 21) (lv' := [some (vR 200), some (vI (nI k)), some (vI (nI t)), some (vR (242 + t)), some (vI (-1)), none]) (st' := [vI (-1), vI (-1)]) rfl ?_
    refine g_if2 (i' := 27) (P := ((-1) : Int32) = (-1)) rfl rfl Iff.rfl (fun _ => ?_) (fun h2 => absurd (by decide) h2)
    refine g_pure 1 (i' := 28) (lv' := [some (vR 200), some (vI (nI k)), some (vI (nI t)), some (vR (242 + t)), some (vI (-1)), none]) (st' := [vI 0]) rfl ?_
    refine g_bret rfl g_nar0 ?_
    exact o2 h1

theorem s_117 {X : Nat × (Nat → Int32)} {d : Nat} {p : Nat → Nat} {sg : Mg} {B : Nat} {S : Nat → Int32} (hI : Inv B S) (hL : cwL 250 sg S) (hD : cwD 200 sg S) {k t : Nat} (u_k : k ≤ 7) (u_t : t ≤ 7) (hk : k < sn S 1) (ht : t < sn S 5) : gF X (d + 5) 117 [vR 200, vI (nI k), vI (nI t)] p sg (fun r => r = gRv p sg (if wkOK S k t then 1 else 0)) := by
  have b0 := hI.b0
  have hp := (hI.tas ht).1
  have hp2 := hp.2
  have dt := dn_iff hI ht
  have ev : ∀ v, S (113 + 6 * k) = nI v → v < sn S 0 → (S (113 + 6 * k) = S (269 + 5 * t) ↔ v = sn S (269 + 5 * t)) := fun v hv h0 => by rw [hv, hp.1, nI_eq (by omega) (by omega)]
  rcases (hI.per hk).1 with hw | hw
  · rcases (hI.tas ht).2.2.1 with hf | hf
    · refine g_in (cd := k_117) (nL := 6) (rc := 11) rfl (g_A (a := 200) (kd := 0) (n := 10) rfl (by decide)) (g_c1 rfl) (b_117_vx hI hL hD u_k u_t hk ht hw.1.2 hw.1.1 hf (fun h => ?_) (fun h1 h2 h3 => ?_) (fun h1 h2 h3 => ?_) (fun h1 h2 => ?_))
      · rw [if_neg (fun g => h (dt.mpr g.2.2.1))]
      · rw [if_neg (fun g => h3 (by rw [h2]; exact g.2.1))]
      · rw [if_pos ⟨(ev _ hw.1.1 hw.1.2).mpr h2, by rw [← h2]; exact h3, dt.mp h1, Or.inl hf⟩]
      · rw [if_neg (fun g => h2 ((ev _ hw.1.1 hw.1.2).mp g.1))]
    · have hf2 := hf.2
      have hf1 := hf.1
      have df := dn_iff hI (show sn S (269 + 5 * t + 2) < sn S 5 by omega)
      have nf : ¬ S (269 + 5 * t + 2) = -1 := by rw [hf1]; exact nI_m1 (by omega)
      refine g_in (cd := k_117) (nL := 6) (rc := 11) rfl (g_A (a := 200) (kd := 0) (n := 10) rfl (by decide)) (g_c1 rfl) (b_117_vf hI hL hD u_k u_t hk ht hw.1.2 hf2 hw.1.1 hf1 (fun h => ?_) (fun h1 h2 h3 => ?_) (fun h1 h2 h3 h4 => ?_) (fun h1 h2 h3 h4 => ?_) (fun h1 h2 => ?_))
      · rw [if_neg (fun g => h (dt.mpr g.2.2.1))]
      · rw [if_neg (fun g => g.2.2.2.elim nf (fun g2 => by rw [df.mp h3] at g2; cases g2))]
      · rw [if_neg (fun g => h4 (by rw [h2]; exact g.2.1))]
      · rw [if_pos ⟨(ev _ hw.1.1 hw.1.2).mpr h2, by rw [← h2]; exact h4, dt.mp h1, Or.inr (dn_not (fun g => h3 (df.mpr g)))⟩]
      · rw [if_neg (fun g => h2 ((ev _ hw.1.1 hw.1.2).mp g.1))]
  · have e : ¬ wkOK S k t := fun g => by have := g.1; rw [hw.1, hp.1] at this; exact nI_m1 (by omega) this.symm
    refine g_in (cd := k_117) (nL := 6) (rc := 11) rfl (g_A (a := 200) (kd := 0) (n := 10) rfl (by decide)) (g_c1 rfl) (b_117_x hI hL hD u_k u_t hk ht hw.1 (fun h => ?_) (fun h => ?_))
    · rw [if_neg e]
    · rw [if_neg e]
def wkT (S : Nat → Int32) (k t : Nat) : Nat → Int32 := doS S t (nI k) (nI (sn S 8))
def workR (S : Nat → Int32) (x y : Int32) : Nat × Int32 := if okx x (sn S 1) then (if okx y (sn S 5) then (if wkOK S x.toNatClampNeg y.toNatClampNeg then (0, nI (cnt (dnP (wkT S x.toNatClampNeg y.toNatClampNeg)) (sn S 5))) else (2, 0)) else (1, 0)) else (1, 0)
theorem doS_ne {S : Nat → Int32} {t i : Nat} {x y : Int32} (h1 : i ≠ 269 + 5 * t + 3) (h2 : i ≠ 269 + 5 * t + 4) : doS S t x y i = S i := by unfold doS; rw [upd_ne h2, upd_ne h1]
theorem wkT_inv {B : Nat} {A : AS} (hI : RI B A) {k t : Nat} (hk : k < sn A.S 1) (ht : t < sn A.S 5) : Inv B (wkT A.S k t) ∧ Str (wkT A.S k t) ∧ kpL A.S (wkT A.S k t) := by
  have b1 := hI.1.b1; have b5 := hI.1.b5
  refine ⟨hI.1.doI hk ht, fun k' hk' hw' => ?_, fun i hi => doS_ne (by unfold lifeN noLand at hi; omega) (by unfold lifeN noLand at hi; omega)⟩
  unfold wkT at *
  rw [sn_eq (doS_ne (by omega) (by omega))] at hk'
  rw [doS_ne (by omega) (by omega)] at hw'
  rw [sn_eq (doS_ne (by omega) (by omega)), sn_eq (S := A.S) (i := 113 + 6 * k' + 2) (doS_ne (by omega) (by omega))]
  exact hI.2.1 k' hk' hw'

theorem b_156_0 {X : Nat × (Nat → Int32)} {d : Nat} {p : Nat → Nat} {sg : Mg} {Q : am_R → Prop} {B : Nat} {S : Nat → Int32} (hI : Inv B S) (hL : cwL 250 sg S) (hD : cwD 200 sg S) {x : Int32} {y : Int32}
    (o1 : ∀ n2 : Nat, x = nI n2 → n2 < sn S 1 → ∀ n4 : Nat, y = nI n4 → n4 < sn S 5 → (wkOK S n2 n4) → gW X (d + 6) k_156 19 [some (vR 0), some (vI (nI n2)), some (vI (nI n4))] [] p sg Q)
    (o2 : ∀ n2 : Nat, x = nI n2 → n2 < sn S 1 → ∀ n4 : Nat, y = nI n4 → n4 < sn S 5 → (¬ wkOK S n2 n4) → Q (gRx p sg 4))
    (o3 : ∀ n2 : Nat, x = nI n2 → n2 < sn S 1 → (¬ okx y (sn S 5)) → Q (gRx p sg 2))
    (o4 : (¬ okx x (sn S 1)) → Q (gRx p sg 2)) :
    gW X (d + 6) k_156 0 [some (vR 0), some (vI x), some (vI y)] [] p sg Q := by
  have b0 := hI.b0; have b1 := hI.b1; have b2 := hI.b2; have b3 := hI.b3; have b4 := hI.b4; have b5 := hI.b5; have b6 := hI.b6; have b7 := hI.b7; have b8 := hI.b8; have b9 := hI.b9; have b14 := hI.b14
  refine g_pure 3 (i' := 3) (lv' := [some (vR 0), some (vI x), some (vI y)]) (st' := [vI x, vI 1, vR 0]) rfl ?_
  by_cases h1 : okx x (sn S 1)
  · obtain ⟨n2, ln2, en2⟩ := okx_of h1
    subst en2
    refine gW_eq (st' := [vI (nI n2), vI (nI 1), vR 0]) rfl (by rw [(show (1 : Int32) = nI 1 from rfl)]) rfl ?_
    refine g_cV0 rfl (args := [vR 0, vI (nI 1), vI (nI n2)]) (rest := []) rfl rfl rfl (s_140o (d := d + 4) hI hL hD (by omega) ((okx_nI (by omega)).mpr (by omega))) ?_
    refine g_pure 3 (i' := 7) (lv' := [some (vR 0), some (vI (nI n2)), some (vI y)]) (st' := [vI y, vI 5, vR 0]) rfl ?_
    by_cases h3 : okx y (sn S 5)
    · obtain ⟨n4, ln4, en4⟩ := okx_of h3
      subst en4
      refine gW_eq (st' := [vI (nI n4), vI (nI 5), vR 0]) rfl (by rw [(show (5 : Int32) = nI 5 from rfl)]) rfl ?_
      refine g_cV0 rfl (args := [vR 0, vI (nI 5), vI (nI n4)]) (rest := []) rfl rfl rfl (s_140o (d := d + 4) hI hL hD (by omega) ((okx_nI (by omega)).mpr (by omega))) ?_
      refine g_pure 4 (i' := 12) (lv' := [some (vR 0), some (vI (nI n2)), some (vI (nI n4))]) (st' := [vI (nI n4), vI (nI n2), vR 200]) rfl ?_
      refine g_cV1 rfl (args := [vR 200, vI (nI n2), vI (nI n4)]) (rest := []) rfl rfl rfl (s_117 (d := d + 1) hI hL hD (by omega) (by omega) (by omega) (by omega)) ?_
      refine g_if1 (i' := 19) (P := wkOK S n2 n4) rfl rfl g_neB (fun h5 => ?_) (fun h5 => ?_)
      · exact o1 n2 rfl ln2 n4 rfl ln4 h5
      · refine g_thr' rfl rfl ?_
        exact o2 n2 rfl ln2 n4 rfl ln4 h5
    · refine gW_eq (st' := [vI y, vI (nI 5), vR 0]) rfl (by rw [(show (5 : Int32) = nI 5 from rfl)]) rfl ?_
      refine g_cVx rfl (args := [vR 0, vI (nI 5), vI y]) (rest := []) rfl rfl rfl (s_140x (d := d + 4) hI hL hD (by omega) (by assumption)) ?_
      exact o3 n2 rfl ln2 h3
  · refine gW_eq (st' := [vI x, vI (nI 1), vR 0]) rfl (by rw [(show (1 : Int32) = nI 1 from rfl)]) rfl ?_
    refine g_cVx rfl (args := [vR 0, vI (nI 1), vI x]) (rest := []) rfl rfl rfl (s_140x (d := d + 4) hI hL hD (by omega) (by assumption)) ?_
    exact o4 h1

theorem b_156_e {X : Nat × (Nat → Int32)} {d : Nat} {p : Nat → Nat} {sg : Mg} {Q : am_R → Prop} {B : Nat} {S : Nat → Int32} (hI : Inv B S) (hL : cwL 250 sg S) (hD : cwD 200 sg S) {k : Nat} {t : Nat} (u_k : k ≤ 7) (u_t : t ≤ 7) (q1 : k < sn S 1) (q2 : t < sn S 5)
    (o1 : ∀ s1 : Mg, s1 = mu sg 259 t (nI k) → ∀ s2 : Mg, s2 = mu s1 260 t (S 8) → cwL 250 s2 (upd (upd S (269 + 5 * t + 3) (nI k)) (269 + 5 * t + 4) (S 8)) → cwD 200 s2 (upd (upd S (269 + 5 * t + 3) (nI k)) (269 + 5 * t + 4) (S 8)) → gW X (d + 6) k_156 38 [some (vR 0), some (vI (nI k)), some (vI (nI t))] [] p s2 Q) :
    gW X (d + 6) k_156 21 [some (vR 0), some (vI (nI k)), some (vI (nI t))] [] p sg Q := by
  have b0 := hI.b0; have b1 := hI.b1; have b2 := hI.b2; have b3 := hI.b3; have b4 := hI.b4; have b5 := hI.b5; have b6 := hI.b6; have b7 := hI.b7; have b8 := hI.b8; have b9 := hI.b9; have b14 := hI.b14
  refine g_pure 6 (i' := 27) (lv' := [some (vR 0), some (vI (nI k)), some (vI (nI t))]) (st' := [vI (nI k), vI (nI t), vR 259]) rfl ?_
  refine g_ast rfl (g_A (a := 259) (kd := 1) (n := 8) rfl (by decide)) (by decide) (show nI t = nI t from (rfl : nI t = nI t)) (by omega) ?_
  refine g_setv (fun s1 es1 => ?_)
  have hLs1 : cwL 250 s1 (upd S (269 + 5 * t + 3) (nI k)) := by rw [es1]; exact hL.wdon (j := 0) (by decide) (by omega)
  have hDs1 : cwD 200 s1 (upd S (269 + 5 * t + 3) (nI k)) := by rw [es1]; exact hD.life (by decide) (by unfold noLand; omega)
  refine g_pure 8 (i' := 36) (lv' := [some (vR 0), some (vI (nI k)), some (vI (nI t))]) (st' := [vR 250, vI (nI t), vR 260]) rfl ?_
  refine g_getI rfl (g_A (a := 250) (kd := 0) (n := 6) rfl (by decide)) (show _ = S 8 from (hLs1.f12).trans (upd_ne (by omega))) ?_
  refine g_ast rfl (g_A (a := 260) (kd := 1) (n := 8) rfl (by decide)) (by decide) (show nI t = nI t from (rfl : nI t = nI t)) (by omega) ?_
  refine g_setv (fun s2 es2 => ?_)
  have hLs2 : cwL 250 s2 (upd (upd S (269 + 5 * t + 3) (nI k)) (269 + 5 * t + 4) (S 8)) := by rw [es2]; exact hLs1.wdon (j := 1) (by decide) (by omega)
  have hDs2 : cwD 200 s2 (upd (upd S (269 + 5 * t + 3) (nI k)) (269 + 5 * t + 4) (S 8)) := by rw [es2]; exact hDs1.life (by decide) (by unfold noLand; omega)
  exact o1 s1 es1 s2 es2 hLs2 hDs2

theorem b_257_0 {X : Nat × (Nat → Int32)} {d : Nat} {p : Nat → Nat} {sg : Mg} {Q : am_R → Prop} {B : Nat} {S : Nat → Int32} (hI : Inv B S) (hS : sg 801 = S) {x : Int32} {y : Int32}
    (o1 : ∀ s1 : Mg, s1 = mu sg 800 0 0 → (¬ okx x (sn S 1)) → ∀ s3 : Mg, s3 = mu s1 800 0 (nI 1) → Q (gRv p s3 0))
    (o2 : ∀ s1 : Mg, s1 = mu sg 800 0 0 → ∀ n5 : Nat, x = nI n5 → n5 < sn S 1 → ∀ n7 : Nat, y = nI n7 → n7 < sn S 5 → gW X (d + 6) k_257 26 [some (vR 800), some (vI (nI n5)), some (vI (nI n7)), none, none] [] p s1 Q)
    (o3 : ∀ s1 : Mg, s1 = mu sg 800 0 0 → ∀ n5 : Nat, x = nI n5 → n5 < sn S 1 → (¬ okx y (sn S 5)) → ∀ s9 : Mg, s9 = mu s1 800 0 (nI 1) → Q (gRv p s9 0)) :
    gW X (d + 6) k_257 0 [some (vR 800), some (vI x), some (vI y), none, none] [] p sg Q := by
  have b0 := hI.b0; have b1 := hI.b1; have b2 := hI.b2; have b3 := hI.b3; have b4 := hI.b4; have b5 := hI.b5; have b6 := hI.b6; have b7 := hI.b7; have b8 := hI.b8; have b9 := hI.b9; have b14 := hI.b14
  refine g_pure 2 (i' := 2) (lv' := [some (vR 800), some (vI x), some (vI y), none, none]) (st' := [vI 0, vR 800]) rfl ?_
  refine g_putI rfl (g_A (a := 800) (kd := 0) (n := 12) rfl (by decide)) ?_
  refine g_setv (fun s1 es1 => ?_)
  have hSs1 : s1 801 = S := by rw [es1, mu_ne (by decide), hS]
  refine g_pure 3 (i' := 6) (lv' := [some (vR 800), some (vI x), some (vI y), none, none]) (st' := [vI x, vR 800, vR 800]) rfl ?_
  refine g_cV1 rfl (args := [vR 800, vI x]) (rest := [vR 800]) rfl rfl rfl (s_237 (d := d + 4) hI hSs1) ?_
  refine g_if1 (i' := 18) (P := ¬ okx x (sn S 1)) rfl rfl g_neB (fun h2 => ?_) (fun h2 => ?_)
  · refine g_pure 3 (i' := 22) (lv' := [some (vR 800), some (vI x), some (vI y), none, none]) (st' := [vI 1, vI 1, vR 800]) rfl ?_
    refine gW_eq (st' := [vI (nI 1), vI 1, vR 800]) rfl (by rw [(show (1 : Int32) = nI 1 from rfl)]) rfl ?_
    refine g_cV1 rfl (args := [vR 800, vI 1, vI (nI 1)]) (rest := []) rfl rfl rfl (s_227t (d := d + 5) (by omega)) ?_
    refine g_setv (fun s3 es3 => ?_)
    have hSs3 : s3 801 = S := by rw [es3, mu_ne (by decide), hSs1]
    refine g_if1 (i' := 26) (P := 1 = 0) rfl rfl (g_eqN (show 1 = nI 1 from (show (1 : Int32) = nI 1 from rfl)) (show 0 = nI 0 from (show (0 : Int32) = nI 0 from rfl)) (by omega) (by omega)) (fun h4 => absurd h4 (by omega)) (fun _ => ?_)
    refine g_pure 1 (i' := 25) (lv' := [some (vR 800), some (vI x), some (vI y), none, none]) (st' := [vI 0]) rfl ?_
    refine g_iret rfl ?_
    exact o1 s1 es1 h2 s3 es3
  · have h2 := Classical.not_not.mp h2
    obtain ⟨n5, ln5, en5⟩ := okx_of h2
    subst en5
    refine g_pure 5 (i' := 13) (lv' := [some (vR 800), some (vI (nI n5)), some (vI y), none, none]) (st' := [vI 5, vR 801, vI 0, vI y, vR 800]) rfl ?_
    refine g_ald rfl (g_A (a := 801) (kd := 1) (n := 2407) rfl (by decide)) (by decide) (show 5 = nI 5 from (show (5 : Int32) = nI 5 from rfl)) (by decide) (show _ = S 5 from (congrFun hSs1 5)) ?_
    refine g_pure 1 (i' := 15) (lv' := [some (vR 800), some (vI (nI n5)), some (vI y), none, none]) (st' := [vI 1, vI (S 5), vI 0, vI y, vR 800]) rfl ?_
    refine gW_eq (lv' := [some (vR 800), some (vI (nI n5)), some (vI y), none, none]) (st' := [vI 1, vI (nI (sn S 5)), vI 0, vI y, vR 800]) rfl (by rw [(show S 5 = nI (sn S 5) from (hI.c5))]) rfl ?_
    refine g_pure 1 (i' := 16) (lv' := [some (vR 800), some (vI (nI n5)), some (vI y), none, none]) (st' := [vI (nI (sn S 5) - 1), vI 0, vI y, vR 800]) rfl ?_
    refine g_cS1 rfl (args := [vI y, vI 0, vI (nI (sn S 5) - 1)]) (rest := [vR 800]) rfl rfl rfl (s_231x (d := d + 5) (by omega)) ?_
    refine g_if1 (i' := 20) (P := okx y (sn S 5)) rfl rfl g_neB (fun h6 => ?_) (fun h6 => ?_)
    · obtain ⟨n7, ln7, en7⟩ := okx_of h6
      subst en7
      refine g_pure 2 (i' := 22) (lv' := [some (vR 800), some (vI (nI n5)), some (vI (nI n7)), none, none]) (st' := [vI 1, vI 0, vR 800]) rfl ?_
      refine gW_eq (st' := [vI (nI 1), vI 0, vR 800]) rfl (by rw [(show (1 : Int32) = nI 1 from rfl)]) rfl ?_
      refine g_cV1 rfl (args := [vR 800, vI 0, vI (nI 1)]) (rest := []) rfl rfl rfl (s_227f (d := d + 5) (by omega)) ?_
      refine g_if1 (i' := 26) (P := 0 = 0) rfl rfl (g_eqN (show 0 = nI 0 from (show (0 : Int32) = nI 0 from rfl)) (show 0 = nI 0 from (show (0 : Int32) = nI 0 from rfl)) (by omega) (by omega)) (fun _ => ?_) (fun h8 => absurd (by omega) h8)
      exact o2 s1 es1 n5 rfl ln5 n7 rfl ln7
    · refine g_pure 3 (i' := 22) (lv' := [some (vR 800), some (vI (nI n5)), some (vI y), none, none]) (st' := [vI 1, vI 1, vR 800]) rfl ?_
      refine gW_eq (st' := [vI (nI 1), vI 1, vR 800]) rfl (by rw [(show (1 : Int32) = nI 1 from rfl)]) rfl ?_
      refine g_cV1 rfl (args := [vR 800, vI 1, vI (nI 1)]) (rest := []) rfl rfl rfl (s_227t (d := d + 5) (by omega)) ?_
      refine g_setv (fun s9 es9 => ?_)
      have hSs9 : s9 801 = S := by rw [es9, mu_ne (by decide), hSs1]
      refine g_if1 (i' := 26) (P := 1 = 0) rfl rfl (g_eqN (show 1 = nI 1 from (show (1 : Int32) = nI 1 from rfl)) (show 0 = nI 0 from (show (0 : Int32) = nI 0 from rfl)) (by omega) (by omega)) (fun h10 => absurd h10 (by omega)) (fun _ => ?_)
      refine g_pure 1 (i' := 25) (lv' := [some (vR 800), some (vI (nI n5)), some (vI y), none, none]) (st' := [vI 0]) rfl ?_
      refine g_iret rfl ?_
      exact o3 s1 es1 n5 rfl ln5 h6 s9 es9

theorem b_257_f {X : Nat × (Nat → Int32)} {d : Nat} {p : Nat → Nat} {sg : Mg} {Q : am_R → Prop} {B : Nat} {S : Nat → Int32} (hI : Inv B S) (hS : sg 801 = S) {f : Nat} {k : Nat} {t : Nat} (u_k : k ≤ 7) (u_t : t ≤ 7) (q1 : k < sn S 1) (q2 : t < sn S 5) (q3 : f < t) (hf : S (269 + 5 * t + 2) = nI f)
    (o1 : (¬ S (113 + 6 * k) = S (269 + 5 * t)) → ∀ s3 : Mg, s3 = mu sg 800 0 (nI 2) → Q (gRv p s3 0))
    (o2 : (S (113 + 6 * k) = S (269 + 5 * t)) → (¬ sn S (17 + 16 * (sn S (269 + 5 * t)) + ((sn S 8) % (sn S 9))) = sn S (269 + 5 * t + 1)) → ∀ s11 : Mg, s11 = mu sg 800 0 (nI 2) → Q (gRv p s11 0))
    (o3 : (S (113 + 6 * k) = S (269 + 5 * t)) → (sn S (17 + 16 * (sn S (269 + 5 * t)) + ((sn S 8) % (sn S 9))) = sn S (269 + 5 * t + 1)) → (dnP S t = true) → ∀ s15 : Mg, s15 = mu sg 800 0 (nI 2) → Q (gRv p s15 0))
    (o4 : (S (113 + 6 * k) = S (269 + 5 * t)) → (sn S (17 + 16 * (sn S (269 + 5 * t)) + ((sn S 8) % (sn S 9))) = sn S (269 + 5 * t + 1)) → (¬ (dnP S t = true)) → (¬ (dnP S f = true)) → ∀ s20 : Mg, s20 = mu sg 800 0 (nI 2) → Q (gRv p s20 0))
    (o5 : (S (113 + 6 * k) = S (269 + 5 * t)) → (sn S (17 + 16 * (sn S (269 + 5 * t)) + ((sn S 8) % (sn S 9))) = sn S (269 + 5 * t + 1)) → (¬ (dnP S t = true)) → ((dnP S f = true)) → gW X (d + 6) k_257 78 [some (vR 800), some (vI (nI k)), some (vI (nI t)), some (vI (S (269 + 5 * t))), some (vI 1)] [] p sg Q) :
    gW X (d + 6) k_257 26 [some (vR 800), some (vI (nI k)), some (vI (nI t)), none, none] [] p sg Q := by
  have b0 := hI.b0; have b1 := hI.b1; have b2 := hI.b2; have b3 := hI.b3; have b4 := hI.b4; have b5 := hI.b5; have b6 := hI.b6; have b7 := hI.b7; have b8 := hI.b8; have b9 := hI.b9; have b14 := hI.b14
  refine g_pure 3 (i' := 29) (lv' := [some (vR 800), some (vI (nI k)), some (vI (nI t)), none, none]) (st' := [vI 0, vI (nI t), vR 800]) rfl ?_
  refine gW_eq (st' := [vI (nI 0), vI (nI t), vR 800]) rfl (by rw [(show (0 : Int32) = nI 0 from rfl)]) rfl ?_
  refine g_cV1 rfl (args := [vR 800, vI (nI t), vI (nI 0)]) (rest := []) rfl rfl rfl (s_245 (d := d + 5) hS (by omega) (by omega)) ?_
  refine gW_eq (st' := [vI (S (269 + 5 * t))]) rfl (by rw [show S (269 + 5 * t + 0) = S (269 + 5 * t) from congrArg S (by omega)]) rfl ?_
  refine g_pure 4 (i' := 34) (lv' := [some (vR 800), some (vI (nI k)), some (vI (nI t)), some (vI (S (269 + 5 * t))), none]) (st' := [vI 0, vI (nI k), vR 800]) rfl ?_
  refine gW_eq (st' := [vI (nI 0), vI (nI k), vR 800]) rfl (by rw [(show (0 : Int32) = nI 0 from rfl)]) rfl ?_
  refine g_cV1 rfl (args := [vR 800, vI (nI k), vI (nI 0)]) (rest := []) rfl rfl rfl (s_238 (d := d + 5) hS (by omega) (by omega)) ?_
  refine gW_eq (st' := [vI (S (113 + 6 * k))]) rfl (by rw [show S (113 + 6 * k + 0) = S (113 + 6 * k) from congrArg S (by omega)]) rfl ?_
  refine g_pure 1 (i' := 36) (lv' := [some (vR 800), some (vI (nI k)), some (vI (nI t)), some (vI (S (269 + 5 * t))), none]) (st' := [vI (S (269 + 5 * t)), vI (S (113 + 6 * k))]) rfl ?_
  refine g_if2 (i' := 65) (P := ¬ S (113 + 6 * k) = S (269 + 5 * t)) rfl rfl Iff.rfl (fun h1 => ?_) (fun h1 => ?_)
  · refine g_pure 4 (i' := 69) (lv' := [some (vR 800), some (vI (nI k)), some (vI (nI t)), some (vI (S (269 + 5 * t))), some (vI 0)]) (st' := [vI 0, vR 800]) rfl ?_
    refine g_if1 (i' := 72) (P := ¬ 0 = 0) rfl rfl (g_neN (show 0 = nI 0 from (show (0 : Int32) = nI 0 from rfl)) (show 0 = nI 0 from (show (0 : Int32) = nI 0 from rfl)) (by omega) (by omega)) (fun h2 => absurd h2 (by omega)) (fun _ => ?_)
    refine g_pure 3 (i' := 74) (lv' := [some (vR 800), some (vI (nI k)), some (vI (nI t)), some (vI (S (269 + 5 * t))), some (vI 0)]) (st' := [vI 2, vI 1, vR 800]) rfl ?_
    refine gW_eq (st' := [vI (nI 2), vI 1, vR 800]) rfl (by rw [(show (2 : Int32) = nI 2 from rfl)]) rfl ?_
    refine g_cV1 rfl (args := [vR 800, vI 1, vI (nI 2)]) (rest := []) rfl rfl rfl (s_227t (d := d + 5) (by omega)) ?_
    refine g_setv (fun s3 es3 => ?_)
    have hSs3 : s3 801 = S := by rw [es3, mu_ne (by decide), hS]
    refine g_if1 (i' := 78) (P := 1 = 0) rfl rfl (g_eqN (show 1 = nI 1 from (show (1 : Int32) = nI 1 from rfl)) (show 0 = nI 0 from (show (0 : Int32) = nI 0 from rfl)) (by omega) (by omega)) (fun h4 => absurd h4 (by omega)) (fun _ => ?_)
    refine g_pure 1 (i' := 77) (lv' := [some (vR 800), some (vI (nI k)), some (vI (nI t)), some (vI (S (269 + 5 * t))), some (vI 0)]) (st' := [vI 0]) rfl ?_
    refine g_iret rfl ?_
    exact o1 h1 s3 es3
  · have h1 := Classical.not_not.mp h1
    refine g_pure 3 (i' := 40) (lv' := [some (vR 800), some (vI (nI k)), some (vI (nI t)), some (vI (S (269 + 5 * t))), none]) (st' := [vR 800, vI (S (269 + 5 * t)), vR 800]) rfl ?_
    refine g_cV1 rfl (args := [vR 800]) (rest := [vI (S (269 + 5 * t)), vR 800]) rfl rfl rfl (s_248 (d := d + 5) hS) ?_
    have t5 := (hI.tas (k := t) (by omega)).1
    have t5b := t5.2
    refine gW_eq (st' := [vI (nI (sn S 8)), vI (nI (sn S (269 + 5 * t))), vR 800]) rfl (by rw [(show S (269 + 5 * t) = nI (sn S (269 + 5 * t)) from t5.1), (show S 8 = nI (sn S 8) from (hI.c8))]) rfl ?_
    refine g_cV1 rfl (args := [vR 800, vI (nI (sn S (269 + 5 * t))), vI (nI (sn S 8))]) (rest := []) rfl rfl rfl (s_232 (d := d + 4) hI hS (by omega) (by omega)) ?_
    have t6 := Nat.mod_lt ((sn S 8)) (y := sn S 9) (by omega)
    refine g_pure 3 (i' := 45) (lv' := [some (vR 800), some (vI (nI k)), some (vI (nI t)), some (vI (S (269 + 5 * t))), none]) (st' := [vI 1, vI (nI t), vR 800, vI (S (17 + 16 * (sn S (269 + 5 * t)) + ((sn S 8) % (sn S 9))))]) rfl ?_
    refine gW_eq (st' := [vI (nI 1), vI (nI t), vR 800, vI (S (17 + 16 * (sn S (269 + 5 * t)) + ((sn S 8) % (sn S 9))))]) rfl (by rw [(show (1 : Int32) = nI 1 from rfl)]) rfl ?_
    refine g_cV1 rfl (args := [vR 800, vI (nI t), vI (nI 1)]) (rest := [vI (S (17 + 16 * (sn S (269 + 5 * t)) + ((sn S 8) % (sn S 9))))]) rfl rfl rfl (s_245 (d := d + 5) hS (by omega) (by omega)) ?_
    have t7 := hI.tbb (v := sn S (269 + 5 * t)) (q := ((sn S 8) % (sn S 9))) (by omega) (by omega)
    have t8 := (hI.tas (k := t) (by omega)).2.1
    have t8b := t8.2
    refine g_if2 (i' := 65) (P := ¬ sn S (17 + 16 * (sn S (269 + 5 * t)) + ((sn S 8) % (sn S 9))) = sn S (269 + 5 * t + 1)) rfl rfl (g_neN (show S (17 + 16 * (sn S (269 + 5 * t)) + ((sn S 8) % (sn S 9))) = nI (sn S (17 + 16 * (sn S (269 + 5 * t)) + ((sn S 8) % (sn S 9)))) from (hI.tb (by omega) (by omega))) (show S (269 + 5 * t + 1) = nI (sn S (269 + 5 * t + 1)) from t8.1) (by omega) (by omega)) (fun h9 => ?_) (fun h9 => ?_)
    · refine g_pure 4 (i' := 69) (lv' := [some (vR 800), some (vI (nI k)), some (vI (nI t)), some (vI (S (269 + 5 * t))), some (vI 0)]) (st' := [vI 0, vR 800]) rfl ?_
      refine g_if1 (i' := 72) (P := ¬ 0 = 0) rfl rfl (g_neN (show 0 = nI 0 from (show (0 : Int32) = nI 0 from rfl)) (show 0 = nI 0 from (show (0 : Int32) = nI 0 from rfl)) (by omega) (by omega)) (fun h10 => absurd h10 (by omega)) (fun _ => ?_)
      refine g_pure 3 (i' := 74) (lv' := [some (vR 800), some (vI (nI k)), some (vI (nI t)), some (vI (S (269 + 5 * t))), some (vI 0)]) (st' := [vI 2, vI 1, vR 800]) rfl ?_
      refine gW_eq (st' := [vI (nI 2), vI 1, vR 800]) rfl (by rw [(show (2 : Int32) = nI 2 from rfl)]) rfl ?_
      refine g_cV1 rfl (args := [vR 800, vI 1, vI (nI 2)]) (rest := []) rfl rfl rfl (s_227t (d := d + 5) (by omega)) ?_
      refine g_setv (fun s11 es11 => ?_)
      have hSs11 : s11 801 = S := by rw [es11, mu_ne (by decide), hS]
      refine g_if1 (i' := 78) (P := 1 = 0) rfl rfl (g_eqN (show 1 = nI 1 from (show (1 : Int32) = nI 1 from rfl)) (show 0 = nI 0 from (show (0 : Int32) = nI 0 from rfl)) (by omega) (by omega)) (fun h12 => absurd h12 (by omega)) (fun _ => ?_)
      refine g_pure 1 (i' := 77) (lv' := [some (vR 800), some (vI (nI k)), some (vI (nI t)), some (vI (S (269 + 5 * t))), some (vI 0)]) (st' := [vI 0]) rfl ?_
      refine g_iret rfl ?_
      exact o2 h1 h9 s11 es11
    · have h9 := Classical.not_not.mp h9
      refine g_pure 2 (i' := 49) (lv' := [some (vR 800), some (vI (nI k)), some (vI (nI t)), some (vI (S (269 + 5 * t))), none]) (st' := [vI (nI t), vR 800]) rfl ?_
      refine g_cV1 rfl (args := [vR 800, vI (nI t)]) (rest := []) rfl rfl rfl (s_258 (d := d + 4) hI hS (by omega)) ?_
      refine g_if1 (i' := 65) (P := dnP S t = true) rfl rfl g_neB (fun h13 => ?_) (fun h13 => ?_)
      · refine g_pure 4 (i' := 69) (lv' := [some (vR 800), some (vI (nI k)), some (vI (nI t)), some (vI (S (269 + 5 * t))), some (vI 0)]) (st' := [vI 0, vR 800]) rfl ?_
        refine g_if1 (i' := 72) (P := ¬ 0 = 0) rfl rfl (g_neN (show 0 = nI 0 from (show (0 : Int32) = nI 0 from rfl)) (show 0 = nI 0 from (show (0 : Int32) = nI 0 from rfl)) (by omega) (by omega)) (fun h14 => absurd h14 (by omega)) (fun _ => ?_)
        refine g_pure 3 (i' := 74) (lv' := [some (vR 800), some (vI (nI k)), some (vI (nI t)), some (vI (S (269 + 5 * t))), some (vI 0)]) (st' := [vI 2, vI 1, vR 800]) rfl ?_
        refine gW_eq (st' := [vI (nI 2), vI 1, vR 800]) rfl (by rw [(show (2 : Int32) = nI 2 from rfl)]) rfl ?_
        refine g_cV1 rfl (args := [vR 800, vI 1, vI (nI 2)]) (rest := []) rfl rfl rfl (s_227t (d := d + 5) (by omega)) ?_
        refine g_setv (fun s15 es15 => ?_)
        have hSs15 : s15 801 = S := by rw [es15, mu_ne (by decide), hS]
        refine g_if1 (i' := 78) (P := 1 = 0) rfl rfl (g_eqN (show 1 = nI 1 from (show (1 : Int32) = nI 1 from rfl)) (show 0 = nI 0 from (show (0 : Int32) = nI 0 from rfl)) (by omega) (by omega)) (fun h16 => absurd h16 (by omega)) (fun _ => ?_)
        refine g_pure 1 (i' := 77) (lv' := [some (vR 800), some (vI (nI k)), some (vI (nI t)), some (vI (S (269 + 5 * t))), some (vI 0)]) (st' := [vI 0]) rfl ?_
        refine g_iret rfl ?_
        exact o3 h1 h9 h13 s15 es15
      · refine g_pure 3 (i' := 54) (lv' := [some (vR 800), some (vI (nI k)), some (vI (nI t)), some (vI (S (269 + 5 * t))), none]) (st' := [vI 2, vI (nI t), vR 800]) rfl ?_
        refine gW_eq (st' := [vI (nI 2), vI (nI t), vR 800]) rfl (by rw [(show (2 : Int32) = nI 2 from rfl)]) rfl ?_
        refine g_cV1 rfl (args := [vR 800, vI (nI t), vI (nI 2)]) (rest := []) rfl rfl rfl (s_245 (d := d + 5) hS (by omega) (by omega)) ?_
        refine gW_eq (st' := [vI (nI f)]) rfl (by rw [show S (269 + 5 * t + 2) = nI f from hf]) rfl ?_
        refine g_if1 (i' := 63) (P := f < 0) rfl rfl (g_ltN (show nI f = nI f from (rfl : nI f = nI f)) (show 0 = nI 0 from (show (0 : Int32) = nI 0 from rfl)) (by omega) (by omega)) (fun h17 => absurd h17 (by omega)) (fun _ => ?_)
        refine g_pure 4 (i' := 60) (lv' := [some (vR 800), some (vI (nI k)), some (vI (nI t)), some (vI (S (269 + 5 * t))), none]) (st' := [vI 2, vI (nI t), vR 800, vR 800]) rfl ?_
        refine gW_eq (st' := [vI (nI 2), vI (nI t), vR 800, vR 800]) rfl (by rw [(show (2 : Int32) = nI 2 from rfl)]) rfl ?_
        refine g_cV1 rfl (args := [vR 800, vI (nI t), vI (nI 2)]) (rest := [vR 800]) rfl rfl rfl (s_245 (d := d + 5) hS (by omega) (by omega)) ?_
        refine gW_eq (st' := [vI (nI f), vR 800]) rfl (by rw [show S (269 + 5 * t + 2) = nI f from hf]) rfl ?_
        refine g_cV1 rfl (args := [vR 800, vI (nI f)]) (rest := []) rfl rfl rfl (s_258 (d := d + 4) hI hS (by omega)) ?_
        refine g_if1 (i' := 65) (P := ¬ (dnP S f = true)) rfl rfl g_eqB (fun h18 => ?_) (fun h18 => ?_)
        · refine g_pure 4 (i' := 69) (lv' := [some (vR 800), some (vI (nI k)), some (vI (nI t)), some (vI (S (269 + 5 * t))), some (vI 0)]) (st' := [vI 0, vR 800]) rfl ?_
          refine g_if1 (i' := 72) (P := ¬ 0 = 0) rfl rfl (g_neN (show 0 = nI 0 from (show (0 : Int32) = nI 0 from rfl)) (show 0 = nI 0 from (show (0 : Int32) = nI 0 from rfl)) (by omega) (by omega)) (fun h19 => absurd h19 (by omega)) (fun _ => ?_)
          refine g_pure 3 (i' := 74) (lv' := [some (vR 800), some (vI (nI k)), some (vI (nI t)), some (vI (S (269 + 5 * t))), some (vI 0)]) (st' := [vI 2, vI 1, vR 800]) rfl ?_
          refine gW_eq (st' := [vI (nI 2), vI 1, vR 800]) rfl (by rw [(show (2 : Int32) = nI 2 from rfl)]) rfl ?_
          refine g_cV1 rfl (args := [vR 800, vI 1, vI (nI 2)]) (rest := []) rfl rfl rfl (s_227t (d := d + 5) (by omega)) ?_
          refine g_setv (fun s20 es20 => ?_)
          have hSs20 : s20 801 = S := by rw [es20, mu_ne (by decide), hS]
          refine g_if1 (i' := 78) (P := 1 = 0) rfl rfl (g_eqN (show 1 = nI 1 from (show (1 : Int32) = nI 1 from rfl)) (show 0 = nI 0 from (show (0 : Int32) = nI 0 from rfl)) (by omega) (by omega)) (fun h21 => absurd h21 (by omega)) (fun _ => ?_)
          refine g_pure 1 (i' := 77) (lv' := [some (vR 800), some (vI (nI k)), some (vI (nI t)), some (vI (S (269 + 5 * t))), some (vI 0)]) (st' := [vI 0]) rfl ?_
          refine g_iret rfl ?_
          exact o4 h1 h9 h13 h18 s20 es20
        · have h18 := Classical.not_not.mp h18
          refine g_pure 5 (i' := 69) (lv' := [some (vR 800), some (vI (nI k)), some (vI (nI t)), some (vI (S (269 + 5 * t))), some (vI 1)]) (st' := [vI 1, vR 800]) rfl ?_
          refine g_if1 (i' := 72) (P := ¬ 1 = 0) rfl rfl (g_neN (show 1 = nI 1 from (show (1 : Int32) = nI 1 from rfl)) (show 0 = nI 0 from (show (0 : Int32) = nI 0 from rfl)) (by omega) (by omega)) (fun _ => ?_) (fun h22 => absurd (by omega) h22)
          refine g_pure 2 (i' := 74) (lv' := [some (vR 800), some (vI (nI k)), some (vI (nI t)), some (vI (S (269 + 5 * t))), some (vI 1)]) (st' := [vI 2, vI 0, vR 800]) rfl ?_
          refine gW_eq (st' := [vI (nI 2), vI 0, vR 800]) rfl (by rw [(show (2 : Int32) = nI 2 from rfl)]) rfl ?_
          refine g_cV1 rfl (args := [vR 800, vI 0, vI (nI 2)]) (rest := []) rfl rfl rfl (s_227f (d := d + 5) (by omega)) ?_
          refine g_if1 (i' := 78) (P := 0 = 0) rfl rfl (g_eqN (show 0 = nI 0 from (show (0 : Int32) = nI 0 from rfl)) (show 0 = nI 0 from (show (0 : Int32) = nI 0 from rfl)) (by omega) (by omega)) (fun _ => ?_) (fun h23 => absurd (by omega) h23)
          exact o5 h1 h9 h13 h18

theorem b_257_x {X : Nat × (Nat → Int32)} {d : Nat} {p : Nat → Nat} {sg : Mg} {Q : am_R → Prop} {B : Nat} {S : Nat → Int32} (hI : Inv B S) (hS : sg 801 = S) {k : Nat} {t : Nat} (u_k : k ≤ 7) (u_t : t ≤ 7) (q1 : k < sn S 1) (q2 : t < sn S 5) (hf : S (269 + 5 * t + 2) = -1)
    (o1 : (¬ S (113 + 6 * k) = S (269 + 5 * t)) → ∀ s3 : Mg, s3 = mu sg 800 0 (nI 2) → Q (gRv p s3 0))
    (o2 : (S (113 + 6 * k) = S (269 + 5 * t)) → (¬ sn S (17 + 16 * (sn S (269 + 5 * t)) + ((sn S 8) % (sn S 9))) = sn S (269 + 5 * t + 1)) → ∀ s11 : Mg, s11 = mu sg 800 0 (nI 2) → Q (gRv p s11 0))
    (o3 : (S (113 + 6 * k) = S (269 + 5 * t)) → (sn S (17 + 16 * (sn S (269 + 5 * t)) + ((sn S 8) % (sn S 9))) = sn S (269 + 5 * t + 1)) → (dnP S t = true) → ∀ s15 : Mg, s15 = mu sg 800 0 (nI 2) → Q (gRv p s15 0))
    (o4 : (S (113 + 6 * k) = S (269 + 5 * t)) → (sn S (17 + 16 * (sn S (269 + 5 * t)) + ((sn S 8) % (sn S 9))) = sn S (269 + 5 * t + 1)) → (¬ (dnP S t = true)) → gW X (d + 6) k_257 78 [some (vR 800), some (vI (nI k)), some (vI (nI t)), some (vI (S (269 + 5 * t))), some (vI 1)] [] p sg Q) :
    gW X (d + 6) k_257 26 [some (vR 800), some (vI (nI k)), some (vI (nI t)), none, none] [] p sg Q := by
  have b0 := hI.b0; have b1 := hI.b1; have b2 := hI.b2; have b3 := hI.b3; have b4 := hI.b4; have b5 := hI.b5; have b6 := hI.b6; have b7 := hI.b7; have b8 := hI.b8; have b9 := hI.b9; have b14 := hI.b14
  refine g_pure 3 (i' := 29) (lv' := [some (vR 800), some (vI (nI k)), some (vI (nI t)), none, none]) (st' := [vI 0, vI (nI t), vR 800]) rfl ?_
  refine gW_eq (st' := [vI (nI 0), vI (nI t), vR 800]) rfl (by rw [(show (0 : Int32) = nI 0 from rfl)]) rfl ?_
  refine g_cV1 rfl (args := [vR 800, vI (nI t), vI (nI 0)]) (rest := []) rfl rfl rfl (s_245 (d := d + 5) hS (by omega) (by omega)) ?_
  refine gW_eq (st' := [vI (S (269 + 5 * t))]) rfl (by rw [show S (269 + 5 * t + 0) = S (269 + 5 * t) from congrArg S (by omega)]) rfl ?_
  refine g_pure 4 (i' := 34) (lv' := [some (vR 800), some (vI (nI k)), some (vI (nI t)), some (vI (S (269 + 5 * t))), none]) (st' := [vI 0, vI (nI k), vR 800]) rfl ?_
  refine gW_eq (st' := [vI (nI 0), vI (nI k), vR 800]) rfl (by rw [(show (0 : Int32) = nI 0 from rfl)]) rfl ?_
  refine g_cV1 rfl (args := [vR 800, vI (nI k), vI (nI 0)]) (rest := []) rfl rfl rfl (s_238 (d := d + 5) hS (by omega) (by omega)) ?_
  refine gW_eq (st' := [vI (S (113 + 6 * k))]) rfl (by rw [show S (113 + 6 * k + 0) = S (113 + 6 * k) from congrArg S (by omega)]) rfl ?_
  refine g_pure 1 (i' := 36) (lv' := [some (vR 800), some (vI (nI k)), some (vI (nI t)), some (vI (S (269 + 5 * t))), none]) (st' := [vI (S (269 + 5 * t)), vI (S (113 + 6 * k))]) rfl ?_
  refine g_if2 (i' := 65) (P := ¬ S (113 + 6 * k) = S (269 + 5 * t)) rfl rfl Iff.rfl (fun h1 => ?_) (fun h1 => ?_)
  · refine g_pure 4 (i' := 69) (lv' := [some (vR 800), some (vI (nI k)), some (vI (nI t)), some (vI (S (269 + 5 * t))), some (vI 0)]) (st' := [vI 0, vR 800]) rfl ?_
    refine g_if1 (i' := 72) (P := ¬ 0 = 0) rfl rfl (g_neN (show 0 = nI 0 from (show (0 : Int32) = nI 0 from rfl)) (show 0 = nI 0 from (show (0 : Int32) = nI 0 from rfl)) (by omega) (by omega)) (fun h2 => absurd h2 (by omega)) (fun _ => ?_)
    refine g_pure 3 (i' := 74) (lv' := [some (vR 800), some (vI (nI k)), some (vI (nI t)), some (vI (S (269 + 5 * t))), some (vI 0)]) (st' := [vI 2, vI 1, vR 800]) rfl ?_
    refine gW_eq (st' := [vI (nI 2), vI 1, vR 800]) rfl (by rw [(show (2 : Int32) = nI 2 from rfl)]) rfl ?_
    refine g_cV1 rfl (args := [vR 800, vI 1, vI (nI 2)]) (rest := []) rfl rfl rfl (s_227t (d := d + 5) (by omega)) ?_
    refine g_setv (fun s3 es3 => ?_)
    have hSs3 : s3 801 = S := by rw [es3, mu_ne (by decide), hS]
    refine g_if1 (i' := 78) (P := 1 = 0) rfl rfl (g_eqN (show 1 = nI 1 from (show (1 : Int32) = nI 1 from rfl)) (show 0 = nI 0 from (show (0 : Int32) = nI 0 from rfl)) (by omega) (by omega)) (fun h4 => absurd h4 (by omega)) (fun _ => ?_)
    refine g_pure 1 (i' := 77) (lv' := [some (vR 800), some (vI (nI k)), some (vI (nI t)), some (vI (S (269 + 5 * t))), some (vI 0)]) (st' := [vI 0]) rfl ?_
    refine g_iret rfl ?_
    exact o1 h1 s3 es3
  · have h1 := Classical.not_not.mp h1
    refine g_pure 3 (i' := 40) (lv' := [some (vR 800), some (vI (nI k)), some (vI (nI t)), some (vI (S (269 + 5 * t))), none]) (st' := [vR 800, vI (S (269 + 5 * t)), vR 800]) rfl ?_
    refine g_cV1 rfl (args := [vR 800]) (rest := [vI (S (269 + 5 * t)), vR 800]) rfl rfl rfl (s_248 (d := d + 5) hS) ?_
    have t5 := (hI.tas (k := t) (by omega)).1
    have t5b := t5.2
    refine gW_eq (st' := [vI (nI (sn S 8)), vI (nI (sn S (269 + 5 * t))), vR 800]) rfl (by rw [(show S (269 + 5 * t) = nI (sn S (269 + 5 * t)) from t5.1), (show S 8 = nI (sn S 8) from (hI.c8))]) rfl ?_
    refine g_cV1 rfl (args := [vR 800, vI (nI (sn S (269 + 5 * t))), vI (nI (sn S 8))]) (rest := []) rfl rfl rfl (s_232 (d := d + 4) hI hS (by omega) (by omega)) ?_
    have t6 := Nat.mod_lt ((sn S 8)) (y := sn S 9) (by omega)
    refine g_pure 3 (i' := 45) (lv' := [some (vR 800), some (vI (nI k)), some (vI (nI t)), some (vI (S (269 + 5 * t))), none]) (st' := [vI 1, vI (nI t), vR 800, vI (S (17 + 16 * (sn S (269 + 5 * t)) + ((sn S 8) % (sn S 9))))]) rfl ?_
    refine gW_eq (st' := [vI (nI 1), vI (nI t), vR 800, vI (S (17 + 16 * (sn S (269 + 5 * t)) + ((sn S 8) % (sn S 9))))]) rfl (by rw [(show (1 : Int32) = nI 1 from rfl)]) rfl ?_
    refine g_cV1 rfl (args := [vR 800, vI (nI t), vI (nI 1)]) (rest := [vI (S (17 + 16 * (sn S (269 + 5 * t)) + ((sn S 8) % (sn S 9))))]) rfl rfl rfl (s_245 (d := d + 5) hS (by omega) (by omega)) ?_
    have t7 := hI.tbb (v := sn S (269 + 5 * t)) (q := ((sn S 8) % (sn S 9))) (by omega) (by omega)
    have t8 := (hI.tas (k := t) (by omega)).2.1
    have t8b := t8.2
    refine g_if2 (i' := 65) (P := ¬ sn S (17 + 16 * (sn S (269 + 5 * t)) + ((sn S 8) % (sn S 9))) = sn S (269 + 5 * t + 1)) rfl rfl (g_neN (show S (17 + 16 * (sn S (269 + 5 * t)) + ((sn S 8) % (sn S 9))) = nI (sn S (17 + 16 * (sn S (269 + 5 * t)) + ((sn S 8) % (sn S 9)))) from (hI.tb (by omega) (by omega))) (show S (269 + 5 * t + 1) = nI (sn S (269 + 5 * t + 1)) from t8.1) (by omega) (by omega)) (fun h9 => ?_) (fun h9 => ?_)
    · refine g_pure 4 (i' := 69) (lv' := [some (vR 800), some (vI (nI k)), some (vI (nI t)), some (vI (S (269 + 5 * t))), some (vI 0)]) (st' := [vI 0, vR 800]) rfl ?_
      refine g_if1 (i' := 72) (P := ¬ 0 = 0) rfl rfl (g_neN (show 0 = nI 0 from (show (0 : Int32) = nI 0 from rfl)) (show 0 = nI 0 from (show (0 : Int32) = nI 0 from rfl)) (by omega) (by omega)) (fun h10 => absurd h10 (by omega)) (fun _ => ?_)
      refine g_pure 3 (i' := 74) (lv' := [some (vR 800), some (vI (nI k)), some (vI (nI t)), some (vI (S (269 + 5 * t))), some (vI 0)]) (st' := [vI 2, vI 1, vR 800]) rfl ?_
      refine gW_eq (st' := [vI (nI 2), vI 1, vR 800]) rfl (by rw [(show (2 : Int32) = nI 2 from rfl)]) rfl ?_
      refine g_cV1 rfl (args := [vR 800, vI 1, vI (nI 2)]) (rest := []) rfl rfl rfl (s_227t (d := d + 5) (by omega)) ?_
      refine g_setv (fun s11 es11 => ?_)
      have hSs11 : s11 801 = S := by rw [es11, mu_ne (by decide), hS]
      refine g_if1 (i' := 78) (P := 1 = 0) rfl rfl (g_eqN (show 1 = nI 1 from (show (1 : Int32) = nI 1 from rfl)) (show 0 = nI 0 from (show (0 : Int32) = nI 0 from rfl)) (by omega) (by omega)) (fun h12 => absurd h12 (by omega)) (fun _ => ?_)
      refine g_pure 1 (i' := 77) (lv' := [some (vR 800), some (vI (nI k)), some (vI (nI t)), some (vI (S (269 + 5 * t))), some (vI 0)]) (st' := [vI 0]) rfl ?_
      refine g_iret rfl ?_
      exact o2 h1 h9 s11 es11
    · have h9 := Classical.not_not.mp h9
      refine g_pure 2 (i' := 49) (lv' := [some (vR 800), some (vI (nI k)), some (vI (nI t)), some (vI (S (269 + 5 * t))), none]) (st' := [vI (nI t), vR 800]) rfl ?_
      refine g_cV1 rfl (args := [vR 800, vI (nI t)]) (rest := []) rfl rfl rfl (s_258 (d := d + 4) hI hS (by omega)) ?_
      refine g_if1 (i' := 65) (P := dnP S t = true) rfl rfl g_neB (fun h13 => ?_) (fun h13 => ?_)
      · refine g_pure 4 (i' := 69) (lv' := [some (vR 800), some (vI (nI k)), some (vI (nI t)), some (vI (S (269 + 5 * t))), some (vI 0)]) (st' := [vI 0, vR 800]) rfl ?_
        refine g_if1 (i' := 72) (P := ¬ 0 = 0) rfl rfl (g_neN (show 0 = nI 0 from (show (0 : Int32) = nI 0 from rfl)) (show 0 = nI 0 from (show (0 : Int32) = nI 0 from rfl)) (by omega) (by omega)) (fun h14 => absurd h14 (by omega)) (fun _ => ?_)
        refine g_pure 3 (i' := 74) (lv' := [some (vR 800), some (vI (nI k)), some (vI (nI t)), some (vI (S (269 + 5 * t))), some (vI 0)]) (st' := [vI 2, vI 1, vR 800]) rfl ?_
        refine gW_eq (st' := [vI (nI 2), vI 1, vR 800]) rfl (by rw [(show (2 : Int32) = nI 2 from rfl)]) rfl ?_
        refine g_cV1 rfl (args := [vR 800, vI 1, vI (nI 2)]) (rest := []) rfl rfl rfl (s_227t (d := d + 5) (by omega)) ?_
        refine g_setv (fun s15 es15 => ?_)
        have hSs15 : s15 801 = S := by rw [es15, mu_ne (by decide), hS]
        refine g_if1 (i' := 78) (P := 1 = 0) rfl rfl (g_eqN (show 1 = nI 1 from (show (1 : Int32) = nI 1 from rfl)) (show 0 = nI 0 from (show (0 : Int32) = nI 0 from rfl)) (by omega) (by omega)) (fun h16 => absurd h16 (by omega)) (fun _ => ?_)
        refine g_pure 1 (i' := 77) (lv' := [some (vR 800), some (vI (nI k)), some (vI (nI t)), some (vI (S (269 + 5 * t))), some (vI 0)]) (st' := [vI 0]) rfl ?_
        refine g_iret rfl ?_
        exact o3 h1 h9 h13 s15 es15
      · refine g_pure 3 (i' := 54) (lv' := [some (vR 800), some (vI (nI k)), some (vI (nI t)), some (vI (S (269 + 5 * t))), none]) (st' := [vI 2, vI (nI t), vR 800]) rfl ?_
        refine gW_eq (st' := [vI (nI 2), vI (nI t), vR 800]) rfl (by rw [(show (2 : Int32) = nI 2 from rfl)]) rfl ?_
        refine g_cV1 rfl (args := [vR 800, vI (nI t), vI (nI 2)]) (rest := []) rfl rfl rfl (s_245 (d := d + 5) hS (by omega) (by omega)) ?_
        refine gW_eq (st' := [vI (-1)]) rfl (by rw [show S (269 + 5 * t + 2) = (-1) from hf]) rfl ?_
        refine g_if1 (i' := 63) (P := ((-1) : Int32) < 0) rfl rfl Iff.rfl (fun _ => ?_) (fun h17 => absurd (by decide) h17)
        refine g_pure 5 (i' := 69) (lv' := [some (vR 800), some (vI (nI k)), some (vI (nI t)), some (vI (S (269 + 5 * t))), some (vI 1)]) (st' := [vI 1, vR 800]) rfl ?_
        refine g_if1 (i' := 72) (P := ¬ 1 = 0) rfl rfl (g_neN (show 1 = nI 1 from (show (1 : Int32) = nI 1 from rfl)) (show 0 = nI 0 from (show (0 : Int32) = nI 0 from rfl)) (by omega) (by omega)) (fun _ => ?_) (fun h18 => absurd (by omega) h18)
        refine g_pure 2 (i' := 74) (lv' := [some (vR 800), some (vI (nI k)), some (vI (nI t)), some (vI (S (269 + 5 * t))), some (vI 1)]) (st' := [vI 2, vI 0, vR 800]) rfl ?_
        refine gW_eq (st' := [vI (nI 2), vI 0, vR 800]) rfl (by rw [(show (2 : Int32) = nI 2 from rfl)]) rfl ?_
        refine g_cV1 rfl (args := [vR 800, vI 0, vI (nI 2)]) (rest := []) rfl rfl rfl (s_227f (d := d + 5) (by omega)) ?_
        refine g_if1 (i' := 78) (P := 0 = 0) rfl rfl (g_eqN (show 0 = nI 0 from (show (0 : Int32) = nI 0 from rfl)) (show 0 = nI 0 from (show (0 : Int32) = nI 0 from rfl)) (by omega) (by omega)) (fun _ => ?_) (fun h19 => absurd (by omega) h19)
        exact o4 h1 h9 h13

theorem b_257_e {X : Nat × (Nat → Int32)} {d : Nat} {p : Nat → Nat} {sg : Mg} {Q : am_R → Prop} {B : Nat} {S : Nat → Int32} (hI : Inv B S) (hS : sg 801 = S) {k : Nat} {t : Nat} {z3 : Option AV} {z4 : Option AV} (u_k : k ≤ 7) (u_t : t ≤ 7) (q1 : k < sn S 1) (q2 : t < sn S 5)
    (o1 : ∀ s1 : Mg, s1 = mu sg 801 (269 + 5 * t + 3) (nI k) → ∀ s2 : Mg, s2 = mu s1 801 (269 + 5 * t + 4) (S 8) → s2 801 = (upd (upd S (269 + 5 * t + 3) (nI k)) (269 + 5 * t + 4) (S 8)) → gW X (d + 6) k_257 103 [some (vR 800), some (vI (nI k)), some (vI (nI t)), z3, z4] [] p s2 Q) :
    gW X (d + 6) k_257 80 [some (vR 800), some (vI (nI k)), some (vI (nI t)), z3, z4] [] p sg Q := by
  have b0 := hI.b0; have b1 := hI.b1; have b2 := hI.b2; have b3 := hI.b3; have b4 := hI.b4; have b5 := hI.b5; have b6 := hI.b6; have b7 := hI.b7; have b8 := hI.b8; have b9 := hI.b9; have b14 := hI.b14
  refine g_pure 10 (i' := 90) (lv' := [some (vR 800), some (vI (nI k)), some (vI (nI t)), z3, z4]) (st' := [vI (nI k), vI ((269 + (5 * nI t)) + 3), vR 801]) rfl ?_
  refine gW_eq (lv' := [some (vR 800), some (vI (nI k)), some (vI (nI t)), z3, z4]) (st' := [vI (nI k), vI (nI (269 + 5 * t + 3)), vR 801]) rfl (by rw [(show ((269 + (5 * nI t)) + 3) = nI (269 + 5 * t + 3) from ((g_add (g_add (show (269 : Int32) = nI 269 from rfl) (g_mul (show (5 : Int32) = nI 5 from rfl) (rfl : nI t = nI t))) (show (3 : Int32) = nI 3 from rfl))).trans (congrArg nI (by omega)))]) rfl ?_
  refine g_ast rfl (g_A (a := 801) (kd := 1) (n := 2407) rfl (by decide)) (by decide) (show nI (269 + 5 * t + 3) = nI (269 + 5 * t + 3) from (rfl : nI (269 + 5 * t + 3) = nI (269 + 5 * t + 3))) (by omega) ?_
  refine g_setv (fun s1 es1 => ?_)
  have hSs1 : s1 801 = upd S (269 + 5 * t + 3) (nI k) := by rw [es1, mu_row, hS]
  refine g_pure 10 (i' := 101) (lv' := [some (vR 800), some (vI (nI k)), some (vI (nI t)), z3, z4]) (st' := [vR 800, vI ((269 + (5 * nI t)) + 4), vR 801]) rfl ?_
  refine gW_eq (lv' := [some (vR 800), some (vI (nI k)), some (vI (nI t)), z3, z4]) (st' := [vR 800, vI (nI (269 + 5 * t + 4)), vR 801]) rfl (by rw [(show ((269 + (5 * nI t)) + 4) = nI (269 + 5 * t + 4) from ((g_add (g_add (show (269 : Int32) = nI 269 from rfl) (g_mul (show (5 : Int32) = nI 5 from rfl) (rfl : nI t = nI t))) (show (4 : Int32) = nI 4 from rfl))).trans (congrArg nI (by omega)))]) rfl ?_
  refine g_cV1 rfl (args := [vR 800]) (rest := [vI (nI (269 + 5 * t + 4)), vR 801]) rfl rfl rfl (s_248 (d := d + 5) hSs1) ?_
  refine gW_eq (st' := [vI (S 8), vI (nI (269 + 5 * t + 4)), vR 801]) rfl (by rw [show (upd S (269 + 5 * t + 3) (nI k)) 8 = S 8 from (show (upd S (269 + 5 * t + 3) (nI k)) 8 = S 8 from (rfl).trans (upd_ne (by omega)))]) rfl ?_
  refine g_ast rfl (g_A (a := 801) (kd := 1) (n := 2407) rfl (by decide)) (by decide) (show nI (269 + 5 * t + 4) = nI (269 + 5 * t + 4) from (rfl : nI (269 + 5 * t + 4) = nI (269 + 5 * t + 4))) (by omega) ?_
  refine g_setv (fun s2 es2 => ?_)
  have hSs2 : s2 801 = upd (upd S (269 + 5 * t + 3) (nI k)) (269 + 5 * t + 4) (S 8) := by rw [es2, mu_row, hSs1]
  exact o1 s1 es1 s2 es2 hSs2

theorem c_work {X : Nat × (Nat → Int32)} {d : Nat} {p : Nat → Nat} {sg : Mg} {B : Nat} {A : AS} (hI : RI B A) (hR : RC A p sg) {x y : Int32} : gF X (d + 7) 156 [vR 0, vI x, vI y] p sg (cR A (A.act (wkT A.S x.toNatClampNeg y.toNatClampNeg)) (fun c => if c = 1 then 2 else 4) (workR A.S x y) sg) := by
  have b0 := hI.1.b0; have b1 := hI.1.b1; have b5 := hI.1.b5
  have hcv : ∀ k t, k < sn A.S 1 → t < sn A.S 5 → workR A.S (nI k) (nI t) = if wkOK A.S k t then (0, nI (cnt (dnP (wkT A.S k t)) (sn A.S 5))) else (2, 0) := fun k t hk ht => by
    unfold workR
    rw [if_pos ((okx_nI (by omega)).mpr (by omega)), if_pos ((okx_nI (by omega)).mpr (by omega)), nI_clamp (by omega), nI_clamp (by omega)]
  refine g_in (cd := k_156) (nL := 3) (rc := 12) rfl (g_A (a := 0) (kd := 0) (n := 11) rfl (by decide)) (g_c1 rfl) (b_156_0 hI.1 hR.2.1.1 hR.2.1.2.1 (fun k ek hk t et ht h => ?_) (fun k ek hk t et ht h => ?_) (fun k ek hk h => ?_) (fun h => ?_))
  · subst ek et
    rw [hcv k t hk ht, if_pos h]
    simp (disch := omega) only [nI_clamp]
    obtain ⟨i1, i2, i3⟩ := wkT_inv hI hk ht
    refine g_pure 1 (i' := 20) (lv' := [some (vR 0), some (vI (nI k)), some (vI (nI t))]) (st' := [vR 0]) rfl ?_
    refine g_calV rfl (args := [vR 0]) (rest := []) rfl rfl (Nat.zero_le _) (s_153r (d := d + 1) hI hR) (fun q hq => ?_)
    obtain ⟨s5, h5, rfl⟩ := hq
    refine gK_0 (b_156_e hI.1 (h5.L hI hR) (h5.D hI hR) (by omega) (by omega) hk ht (fun s6 e6 s7 e7 g1 g2 => ?_))
    rw [hI.1.c8] at g1 g2
    have g1 : cwL 250 s7 (wkT A.S k t) := g1
    have g2 : cwD 200 s7 (wkT A.S k t) := g2
    refine g_pure 2 (i' := 40) (lv' := [some (vR 0), some (vI (nI k)), some (vI (nI t))]) (st' := [vR 200]) rfl ?_
    refine g_cV1 rfl (args := [vR 200]) (rest := []) rfl rfl rfl (s_107 (d := d + 4) i1 g1 g2) ?_
    refine g_iret rfl ?_
    rw [show sn (wkT A.S k t) 5 = sn A.S 5 from sn_eq (doS_ne (by omega) (by omega))]
    refine h5.act hI hR (fun c' c1 c2 c3 c4 c5 => ?_) ⟨g1, g2⟩ i3 (fun _ _ => rfl)
    rw [e7, mu_ne (by omega), e6, mu_ne (by omega)]
  · subst ek et
    exact cR_x hR (fun _ _ => rfl) (c := 1) (by rw [hcv k t hk ht, if_neg h]) rfl
  · subst ek
    refine cR_x hR (fun _ _ => rfl) (c := 0) ?_ rfl
    unfold workR
    rw [if_pos ((okx_nI (by omega)).mpr (by omega)), if_neg h]
  · refine cR_x hR (fun _ _ => rfl) (c := 0) ?_ rfl
    unfold workR
    rw [if_neg h]
theorem m_work {X : Nat × (Nat → Int32)} {d : Nat} {p : Nat → Nat} {sg : Mg} {B : Nat} {A : AS} (hI : RI B A) (hR : RM A sg) {x y : Int32} : gF X (d + 7) 257 [vR 800, vI x, vI y] p sg (mR A (A.act (wkT A.S x.toNatClampNeg y.toNatClampNeg)) (workR A.S x y) p sg) := by
  have b0 := hI.1.b0; have b1 := hI.1.b1; have b5 := hI.1.b5
  have hcv : ∀ k t, k < sn A.S 1 → t < sn A.S 5 → workR A.S (nI k) (nI t) = if wkOK A.S k t then (0, nI (cnt (dnP (wkT A.S k t)) (sn A.S 5))) else (2, 0) := fun k t hk ht => by
    unfold workR
    rw [if_pos ((okx_nI (by omega)).mpr (by omega)), if_pos ((okx_nI (by omega)).mpr (by omega)), nI_clamp (by omega), nI_clamp (by omega)]
  refine g_in (cd := k_257) (nL := 5) (rc := 13) rfl (g_A (a := 800) (kd := 0) (n := 12) rfl (by decide)) (g_c1 rfl) (b_257_0 hI.1 hR.1 (fun s1 f1 h s3 f3 => ?_) (fun s1 f1 k ek hk t et ht => ?_) (fun s1 f1 k ek hk h s3 f3 => ?_))
  · refine mR_x ((hR.th f1).th f3) (fun c hc => by rw [f3, f1, up_hi hc, up_hi hc]) (c := 0) (by rw [f3, mu_self]) ?_
    unfold workR
    rw [if_neg h]
  · subst ek et
    rw [hcv k t hk ht]
    simp (disch := omega) only [nI_clamp]
    obtain ⟨i1, i2, i3⟩ := wkT_inv hI hk ht
    have hR1 := hR.th f1
    have hh : ∀ c, c < 800 ∨ 900 ≤ c → s1 c = sg c := fun c hc => by rw [f1, up_hi hc]
    have h0 : s1 800 0 = 0 := by rw [f1, mu_self]
    have no : ∀ s3, s3 = mu s1 800 0 (nI 2) → ¬ wkOK A.S k t → mR A (A.act (wkT A.S k t)) (if wkOK A.S k t then (0, nI (cnt (dnP (wkT A.S k t)) (sn A.S 5))) else (2, 0)) p sg (gRv p s3 0) := fun s3 f3 h =>
      mR_x (hR1.th f3) (fun c hc => by rw [f3, up_hi hc, hh c hc]) (c := 1) (by rw [f3, mu_self]) (by rw [if_neg h])
    have yes : wkOK A.S k t → gW X (d + 6) k_257 78 [some (vR 800), some (vI (nI k)), some (vI (nI t)), some (vI (A.S (269 + 5 * t))), some (vI 1)] [] p s1 (mR A (A.act (wkT A.S k t)) (if wkOK A.S k t then (0, nI (cnt (dnP (wkT A.S k t)) (sn A.S 5))) else (2, 0)) p sg) := fun hok => by
      rw [if_pos hok]
      refine g_pure 1 (i' := 79) (lv' := [some (vR 800), some (vI (nI k)), some (vI (nI t)), some (vI (A.S (269 + 5 * t))), some (vI 1)]) (st' := [vR 800]) rfl ?_
      refine g_calV rfl (args := [vR 800]) (rest := []) rfl rfl (Nat.zero_le _) (s_255r (d := d + 5) hI hR1) (fun q hq => ?_)
      subst hq
      refine gK_0 (b_257_e (S := A.S) hI.1 (rmM_S hR1) (by omega) (by omega) hk ht (fun s6 e6 s7 e7 g1 => ?_))
      rw [hI.1.c8] at g1
      have g1 : s7 801 = wkT A.S k t := g1
      refine g_pure 1 (i' := 104) (lv' := [some (vR 800), some (vI (nI k)), some (vI (nI t)), some (vI (A.S (269 + 5 * t))), some (vI 1)]) (st' := [vR 800]) rfl ?_
      refine g_cV1 rfl (args := [vR 800]) (rest := []) rfl rfl rfl (s_259 (d := d + 3) i1 g1) ?_
      refine g_iret rfl ?_
      rw [show sn (wkT A.S k t) 5 = sn A.S 5 from sn_eq (doS_ne (by omega) (by omega))]
      refine rmM_act hI hR1 (fun c c1 c2 c3 => ?_) g1 hh h0
      rw [e7, mu_ne c1, e6, mu_ne c1]
    rcases (hI.1.tas ht).2.2.1 with hf | hf
    · refine b_257_x hI.1 hR1.1 (by omega) (by omega) hk ht hf (fun h1 s3 f3 => no _ f3 (fun g => h1 g.1)) (fun h1 h2 s3 f3 => no _ f3 (fun g => h2 g.2.1)) (fun h1 h2 h3 s3 f3 => no _ f3 (fun g => absurd (h3.symm.trans g.2.2.1) (by decide))) (fun h1 h2 h3 => yes ⟨h1, h2, by simpa using h3, Or.inl hf⟩)
    · have hf1 := hf.1
      have hf2 := hf.2
      have nf : ¬ A.S (269 + 5 * t + 2) = -1 := by rw [hf1]; exact nI_m1 (by omega)
      refine b_257_f hI.1 hR1.1 (by omega) (by omega) hk ht hf2 hf1 (fun h1 s3 f3 => no _ f3 (fun g => h1 g.1)) (fun h1 h2 s3 f3 => no _ f3 (fun g => h2 g.2.1)) (fun h1 h2 h3 s3 f3 => no _ f3 (fun g => absurd (h3.symm.trans g.2.2.1) (by decide))) (fun h1 h2 h3 h4 s3 f3 => no _ f3 (fun g => g.2.2.2.elim nf h4)) (fun h1 h2 h3 h4 => yes ⟨h1, h2, by simpa using h3, Or.inr h4⟩)
  · subst ek
    refine mR_x ((hR.th f1).th f3) (fun c hc => by rw [f3, f1, up_hi hc, up_hi hc]) (c := 0) (by rw [f3, mu_self]) ?_
    unfold workR
    rw [if_pos ((okx_nI (by omega)).mpr (by omega)), if_neg h]
