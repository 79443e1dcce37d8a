/-! THE LAW'S CASES with their contracts (printed by wip/whole/gen9129.py) -/
theorem cR.ok {A As : AS} {ex : Nat → Nat} {v : Int32} {sg : Mg} {r : am_R} (h : cR A As ex (0, v) sg r) : cR As As ex (0, v) sg r := by
  obtain ⟨p', s, h1, h2 | h2⟩ := h
  · exact ⟨p', s, h1, Or.inl h2⟩
  · exact absurd rfl h2.1
theorem couS_n {A : AS} (h : A.n ≤ 12) : (couS A).n ≤ 12 := by
  unfold couS
  split
  · exact h
  · exact Nat.zero_le _
theorem mR.ok {A As : AS} {v : Int32} {p : Nat → Nat} {sg : Mg} {r : am_R} (h : mR A As (0, v) p sg r) : mR As As (0, v) p sg r := h
theorem le_day {S : Nat → Int32} {x0 : Int32} {x1 : Int32} : (dayR S x0 x1).1 ≤ 2 := by
  unfold dayR
  (repeat' split) <;> first | exact Nat.zero_le _ | exact Nat.le_refl _ | exact Nat.le_of_ble_eq_true rfl
theorem le_page {S : Nat → Int32} {x0 : Int32} {x1 : Int32} : (pageR S x0 x1).1 ≤ 1 := by
  unfold pageR
  (repeat' split) <;> first | exact Nat.zero_le _ | exact Nat.le_refl _ | exact Nat.le_of_ble_eq_true rfl
theorem le_when {S : Nat → Int32} {x0 : Int32} {x1 : Int32} {x2 : Int32} : (whenR S x0 x1 x2).1 ≤ 2 := by
  unfold whenR
  (repeat' split) <;> first | exact Nat.zero_le _ | exact Nat.le_refl _ | exact Nat.le_of_ble_eq_true rfl
theorem le_person {S : Nat → Int32} {x0 : Int32} {x1 : Int32} : (personR S x0 x1).1 ≤ 2 := by
  unfold personR
  (repeat' split) <;> first | exact Nat.zero_le _ | exact Nat.le_refl _ | exact Nat.le_of_ble_eq_true rfl
theorem le_road {S : Nat → Int32} {x0 : Int32} {x1 : Int32} : (roadR S x0 x1).1 ≤ 2 := by
  unfold roadR
  (repeat' split) <;> first | exact Nat.zero_le _ | exact Nat.le_refl _ | exact Nat.le_of_ble_eq_true rfl
theorem le_debt {S : Nat → Int32} {x0 : Int32} {x1 : Int32} : (debtR S x0 x1).1 ≤ 2 := by
  unfold debtR
  (repeat' split) <;> first | exact Nat.zero_le _ | exact Nat.le_refl _ | exact Nat.le_of_ble_eq_true rfl
theorem le_task {S : Nat → Int32} {x0 : Int32} {x1 : Int32} : (taskR S x0 x1).1 ≤ 2 := by
  unfold taskR
  (repeat' split) <;> first | exact Nat.zero_le _ | exact Nat.le_refl _ | exact Nat.le_of_ble_eq_true rfl
theorem le_fact {S : Nat → Int32} {x0 : Int32} {x1 : Prop} [Decidable x1] : (factR S x0 x1).1 ≤ 1 := by
  unfold factR
  (repeat' split) <;> first | exact Nat.zero_le _ | exact Nat.le_refl _ | exact Nat.le_of_ble_eq_true rfl
theorem le_rule {S : Nat → Int32} {x0 : Int32} {x1 : Int32} {x2 : Int32} : (ruleR S x0 x1 x2).1 ≤ 2 := by
  unfold ruleR
  (repeat' split) <;> first | exact Nat.zero_le _ | exact Nat.le_refl _ | exact Nat.le_of_ble_eq_true rfl
theorem le_go {S : Nat → Int32} {x0 : Int32} {x1 : Int32} : (goR S x0 x1).1 ≤ 2 := by
  unfold goR
  (repeat' split) <;> first | exact Nat.zero_le _ | exact Nat.le_refl _ | exact Nat.le_of_ble_eq_true rfl
theorem le_give {S : Nat → Int32} {x0 : Int32} {x1 : Int32} {x2 : Int32} : (giveR S x0 x1 x2).1 ≤ 3 := by
  unfold giveR
  (repeat' split) <;> first | exact Nat.zero_le _ | exact Nat.le_refl _ | exact Nat.le_of_ble_eq_true rfl
theorem le_work {S : Nat → Int32} {x0 : Int32} {x1 : Int32} : (workR S x0 x1).1 ≤ 2 := by
  unfold workR
  (repeat' split) <;> first | exact Nat.zero_le _ | exact Nat.le_refl _ | exact Nat.le_of_ble_eq_true rfl
theorem le_tell {S : Nat → Int32} {x0 : Int32} {x1 : Int32} : (tellR S x0 x1).1 ≤ 1 := by
  unfold tellR
  (repeat' split) <;> first | exact Nat.zero_le _ | exact Nat.le_refl _ | exact Nat.le_of_ble_eq_true rfl
theorem le_dawns {S : Nat → Int32} {x0 : Int32} : (dawnsR S x0).1 ≤ 1 := by
  unfold dawnsR
  (repeat' split) <;> first | exact Nat.zero_le _ | exact Nat.le_refl _ | exact Nat.le_of_ble_eq_true rfl
theorem le_soonest {S : Nat → Int32} {x0 : Int32} {x1 : Int32} {x2 : Int32} : (soonestR S x0 x1 x2).1 ≤ 1 := by
  unfold soonestR
  (repeat' split) <;> first | exact Nat.zero_le _ | exact Nat.le_refl _ | exact Nat.le_of_ble_eq_true rfl
theorem le_first {S : Nat → Int32} {x0 : Int32} {x1 : Int32} {x2 : Int32} : (firstR S x0 x1 x2).1 ≤ 1 := by
  unfold firstR
  (repeat' split) <;> first | exact Nat.zero_le _ | exact Nat.le_refl _ | exact Nat.le_of_ble_eq_true rfl
theorem le_meeting {S : Nat → Int32} {x0 : Int32} {x1 : Int32} {x2 : Prop} [Decidable x2] : (meetingR S x0 x1 x2).1 ≤ 2 := by
  unfold meetingR
  (repeat' split) <;> first | exact Nat.zero_le _ | exact Nat.le_refl _ | exact Nat.le_of_ble_eq_true rfl
theorem le_cone {S : Nat → Int32} {x0 : Int32} {x1 : Int32} : (coneR S x0 x1).1 ≤ 2 := by
  unfold coneR
  (repeat' split) <;> first | exact Nat.zero_le _ | exact Nat.le_refl _ | exact Nat.le_of_ble_eq_true rfl
theorem le_warned {S : Nat → Int32} {x0 : Int32} {x1 : Int32} : (warnedR S x0 x1).1 ≤ 2 := by
  unfold warnedR
  (repeat' split) <;> first | exact Nat.zero_le _ | exact Nat.le_refl _ | exact Nat.le_of_ble_eq_true rfl
theorem le_least {S : Nat → Int32} {x0 : Int32} : (leastR S x0).1 ≤ 1 := by
  unfold leastR
  (repeat' split) <;> first | exact Nat.zero_le _ | exact Nat.le_refl _ | exact Nat.le_of_ble_eq_true rfl
theorem le_knew {S : Nat → Int32} {x0 : Int32} {x1 : Int32} : (knewR S x0 x1).1 ≤ 2 := by
  unfold knewR
  (repeat' split) <;> first | exact Nat.zero_le _ | exact Nat.le_refl _ | exact Nat.le_of_ble_eq_true rfl
theorem le_alike {S : Nat → Int32} {x0 : Int32} {x1 : Int32} {x2 : Prop} [Decidable x2] : (alikeR S x0 x1 x2).1 ≤ 1 := by
  unfold alikeR
  (repeat' split) <;> first | exact Nat.zero_le _ | exact Nat.le_refl _ | exact Nat.le_of_ble_eq_true rfl
theorem le_touch {S : Nat → Int32} {x0 : Int32} {x1 : Int32} {x2 : Prop} [Decidable x2] : (touchR S x0 x1 x2).1 ≤ 2 := by
  unfold touchR
  (repeat' split) <;> first | exact Nat.zero_le _ | exact Nat.le_refl _ | exact Nat.le_of_ble_eq_true rfl
theorem le_round {S : Nat → Int32} {x0 : Int32} {x1 : Int32} : (roundR S x0 x1).1 ≤ 2 := by
  unfold roundR
  (repeat' split) <;> first | exact Nat.zero_le _ | exact Nat.le_refl _ | exact Nat.le_of_ble_eq_true rfl
theorem le_bread {A : AS} : (breadR A).1 ≤ 1 := by
  unfold breadR
  (repeat' split) <;> first | exact Nat.zero_le _ | exact Nat.le_refl _ | exact Nat.le_of_ble_eq_true rfl
theorem le_tables {A : AS} : (tablesR A).1 ≤ 1 := by
  unfold tablesR
  (repeat' split) <;> first | exact Nat.zero_le _ | exact Nat.le_refl _ | exact Nat.le_of_ble_eq_true rfl
theorem le_early {S : Nat → Int32} {x0 : Int32} : (earlyR S x0).1 ≤ 1 := by
  unfold earlyR
  (repeat' split) <;> first | exact Nat.zero_le _ | exact Nat.le_refl _ | exact Nat.le_of_ble_eq_true rfl
theorem le_netted {S : Nat → Int32} {x0 : Int32} : (nettedR S x0).1 ≤ 1 := by
  unfold nettedR
  (repeat' split) <;> first | exact Nat.zero_le _ | exact Nat.le_refl _ | exact Nat.le_of_ble_eq_true rfl
theorem le_feasted {S : Nat → Int32} {x0 : Int32} {x1 : Int32} : (feastedR S x0 x1).1 ≤ 2 := by
  unfold feastedR
  (repeat' split) <;> first | exact Nat.zero_le _ | exact Nat.le_refl _ | exact Nat.le_of_ble_eq_true rfl
theorem le_plan {S : Nat → Int32} {x0 : Int32} {x1 : Int32} {x2 : Prop} [Decidable x2] : (planR S x0 x1 x2).1 ≤ 1 := by
  unfold planR
  (repeat' split) <;> first | exact Nat.zero_le _ | exact Nat.le_refl _ | exact Nat.le_of_ble_eq_true rfl
theorem le_log {S : Nat → Int32} {x0 : Int32} {x1 : Int32} : (logR S x0 x1).1 ≤ 1 := by
  unfold logR
  (repeat' split) <;> first | exact Nat.zero_le _ | exact Nat.le_refl _ | exact Nat.le_of_ble_eq_true rfl
theorem le_country {A : AS} : (couR A).1 ≤ 2 := by
  unfold couR
  (repeat' split) <;> first | exact Nat.zero_le _ | exact Nat.le_refl _ | exact Nat.le_of_ble_eq_true rfl
theorem le_law {A : AS} : (lawR A).1 ≤ 1 := by
  unfold lawR
  (repeat' split) <;> first | exact Nat.zero_le _ | exact Nat.le_refl _ | exact Nat.le_of_ble_eq_true rfl
/-- feed -/
theorem ld_0 {X : Nat × (Nat → Int32)} {n B : Nat} {A : AS} {p : Nat → Nat} {sg : Mg} {kc ks : Nat} {o5 o6 : Option AV} {Q : am_R → Prop} (hX : X.1 < 2147483648) (hn : n + 6 ≤ X.1) (hI : RI B A) (hB : B + 200 ≤ 200000) (hR : RC A p sg) (hM : RM A sg) (nx : NX X n (B + 200) kc ks Q) : hL X 41 k_352 [] K_1 (lwv n o5 o6) [] p sg kc ks Q := by
  have hI2 := hI.mono (B' := B + 200) (by omega) hB
  have n12 := hI.2.2.2.1
  have hU := RI.feed (a := X.2 (n + 1)) (b := X.2 (n + 2)) (x := X.2 (n + 3)) (y := X.2 (n + 4)) (z := X.2 (n + 5)) hI2
  exact lc_0 (As := feedA A (X.2 (n + 1)) (X.2 (n + 2)) (X.2 (n + 3)) (X.2 (n + 4)) (X.2 (n + 5))) (v := feedV A) hX hn (gF_mono (c_feed (d := 37) hI hR) (fun r hr => hr.ok)) (mOK.of hM (fun _ => hU) (fun _ => hU) (fun p' s hM' => gF_mono (m_feed (d := 39) hI hM') (fun r hr => hr.ok))) nx
/-- end -/
theorem ld_1 {X : Nat × (Nat → Int32)} {n B : Nat} {A : AS} {p : Nat → Nat} {sg : Mg} {kc ks : Nat} {o5 o6 : Option AV} {Q : am_R → Prop} (hX : X.1 < 2147483648) (hn : n + 6 ≤ X.1) (hI : RI B A) (hB : B + 200 ≤ 200000) (hR : RC A p sg) (hM : RM A sg) (nx : NX X n (B + 200) kc ks Q) : hL X 41 k_352 [] K_2 (lwv n o5 o6) [] p sg kc ks Q := by
  have hI2 := hI.mono (B' := B + 200) (by omega) hB
  have n12 := hI.2.2.2.1
  have hU := RI.cut (x := X.2 (n + 1)) hI2
  exact lc_1 (As := endA A (X.2 (n + 1))) (v := endV A (X.2 (n + 1))) hX hn (gF_mono (c_end (d := 38) hI hR) (fun r hr => hr.ok)) (mOK.of hM (fun _ => hU) (fun _ => hU) (fun p' s hM' => gF_mono (m_end (d := 39) hI hM') (fun r hr => hr.ok))) nx
/-- country -/
theorem ld_2 {X : Nat × (Nat → Int32)} {n B : Nat} {A : AS} {p : Nat → Nat} {sg : Mg} {kc ks : Nat} {o5 o6 : Option AV} {Q : am_R → Prop} (hX : X.1 < 2147483648) (hn : n + 6 ≤ X.1) (hI : RI B A) (hB : B + 200 ≤ 200000) (hR : RC A p sg) (hM : RM A sg) (nx : NX X n (B + 200) kc ks Q) : hL X 41 k_352 [] K_3 (lwv n o5 o6) [] p sg kc ks Q := by
  have hI2 := hI.mono (B' := B + 200) (by omega) hB
  have n12 := hI.2.2.2.1
  exact lc_2 (Af := couF A) (As := couS A) (cv := couR A) hX hn (w_319 (ex := fun c => c - 1) (couS_n n12) le_country rfl rfl (c_country (d := 31) hI hR)) (mOK.of hM (fun _ => RI.couFI hI2) (fun c0 => RI.couSI hI2 c0) (fun p' s hM' => m_country (d := 30) hI hM')) (nI_z (Nat.le_trans le_country (by decide))) nx
/-- law -/
theorem ld_3 {X : Nat × (Nat → Int32)} {n B : Nat} {A : AS} {p : Nat → Nat} {sg : Mg} {kc ks : Nat} {o5 o6 : Option AV} {Q : am_R → Prop} (hX : X.1 < 2147483648) (hn : n + 6 ≤ X.1) (hI : RI B A) (hB : B + 200 ≤ 200000) (hR : RC A p sg) (hM : RM A sg) (nx : NX X n (B + 200) kc ks Q) : hL X 41 k_352 [] K_4 (lwv n o5 o6) [] p sg kc ks Q := by
  have hI2 := hI.mono (B' := B + 200) (by omega) hB
  have n12 := hI.2.2.2.1
  obtain ⟨r0, -, S0, h0, -⟩ := m_law (X := X) (d := 11) (p := p) hI hM
  have hL0 := RI.lawI hI2 h0
  exact lc_3 (Af := lawA A S0) (As := lawA A S0) (cv := lawR A) hX hn (w_320 (ex := fun _ => 0) hL0.2.2.2.1 le_law rfl (c_law (d := 20) hI hR h0)) (mOK.law hI2 h0 hM) (nI_z (Nat.le_trans le_law (by decide))) nx
/-- fault -/
theorem ld_4 {X : Nat × (Nat → Int32)} {n B : Nat} {A : AS} {p : Nat → Nat} {sg : Mg} {kc ks : Nat} {o5 o6 : Option AV} {Q : am_R → Prop} (hX : X.1 < 2147483648) (hn : n + 6 ≤ X.1) (hI : RI B A) (hB : B + 200 ≤ 200000) (hR : RC A p sg) (hM : RM A sg) (nx : NX X n (B + 200) kc ks Q) : hL X 41 k_352 [] K_5 (lwv n o5 o6) [] p sg kc ks Q := by
  have hI2 := hI.mono (B' := B + 200) (by omega) hB
  have n12 := hI.2.2.2.1
  have hU := hI2
  exact lc_4 (As := A) (v := A.q) hX hn (gF_mono (c_fault (d := 40) hR) (fun r hr => hr.ok)) (mOK.of hM (fun _ => hU) (fun _ => hU) (fun p' s hM' => gF_mono (m_fault (d := 39) hM') (fun r hr => hr.ok))) nx
/-- day -/
theorem ld_5 {X : Nat × (Nat → Int32)} {n B : Nat} {A : AS} {p : Nat → Nat} {sg : Mg} {kc ks : Nat} {o5 o6 : Option AV} {Q : am_R → Prop} (hX : X.1 < 2147483648) (hn : n + 6 ≤ X.1) (hI : RI B A) (hB : B + 200 ≤ 200000) (hR : RC A p sg) (hM : RM A sg) (nx : NX X n (B + 200) kc ks Q) : hL X 41 k_352 [] K_6 (lwv n o5 o6) [] p sg kc ks Q := by
  have hI2 := hI.mono (B' := B + 200) (by omega) hB
  have n12 := hI.2.2.2.1
  exact lc_5 (Af := A) (As := A) (cv := dayR A.S (X.2 (n + 1)) (X.2 (n + 2))) hX hn (w_321 (ex := fun c => if c = 1 then 2 else 0) n12 le_day rfl rfl (gF_mono (c_day (d := 36) hI.1 hR.2.1.1 hR.2.1.2.1) (fun r hr => cR_ask hR hr))) (mOK.of hM (fun _ => hI2) (fun _ => hI2) (fun p' s hM' => gF_mono (m_day (d := 38) hI.1 hM'.1) (fun r hr => mR_ask hM' hr))) (nI_z (Nat.le_trans le_day (by decide))) nx
/-- page -/
theorem ld_6 {X : Nat × (Nat → Int32)} {n B : Nat} {A : AS} {p : Nat → Nat} {sg : Mg} {kc ks : Nat} {o5 o6 : Option AV} {Q : am_R → Prop} (hX : X.1 < 2147483648) (hn : n + 6 ≤ X.1) (hI : RI B A) (hB : B + 200 ≤ 200000) (hR : RC A p sg) (hM : RM A sg) (nx : NX X n (B + 200) kc ks Q) : hL X 41 k_352 [] K_7 (lwv n o5 o6) [] p sg kc ks Q := by
  have hI2 := hI.mono (B' := B + 200) (by omega) hB
  have n12 := hI.2.2.2.1
  exact lc_6 (Af := A) (As := A) (cv := pageR A.S (X.2 (n + 1)) (X.2 (n + 2))) hX hn (w_322 (ex := fun _ => 2) n12 le_page rfl (gF_mono (c_page (d := 36) hI.1 hR.2.1.1 hR.2.1.2.1) (fun r hr => cR_ask hR hr))) (mOK.of hM (fun _ => hI2) (fun _ => hI2) (fun p' s hM' => gF_mono (m_page (d := 38) hI.1 hM'.1) (fun r hr => mR_ask hM' hr))) (nI_z (Nat.le_trans le_page (by decide))) nx
/-- when -/
theorem ld_7 {X : Nat × (Nat → Int32)} {n B : Nat} {A : AS} {p : Nat → Nat} {sg : Mg} {kc ks : Nat} {o5 o6 : Option AV} {Q : am_R → Prop} (hX : X.1 < 2147483648) (hn : n + 6 ≤ X.1) (hI : RI B A) (hB : B + 200 ≤ 200000) (hR : RC A p sg) (hM : RM A sg) (nx : NX X n (B + 200) kc ks Q) : hL X 41 k_352 [] K_8 (lwv n o5 o6) [] p sg kc ks Q := by
  have hI2 := hI.mono (B' := B + 200) (by omega) hB
  have n12 := hI.2.2.2.1
  exact lc_7 (Af := A) (As := A) (cv := whenR A.S (X.2 (n + 1)) (X.2 (n + 2)) (X.2 (n + 3))) hX hn (w_323 (ex := fun c => if c = 1 then 2 else 0) n12 le_when rfl rfl (gF_mono (c_when (d := 36) hI.1 hR.2.1.1 hR.2.1.2.1) (fun r hr => cR_ask hR hr))) (mOK.of hM (fun _ => hI2) (fun _ => hI2) (fun p' s hM' => gF_mono (m_when (d := 38) hI.1 hM'.1) (fun r hr => mR_ask hM' hr))) (nI_z (Nat.le_trans le_when (by decide))) nx
/-- person -/
theorem ld_8 {X : Nat × (Nat → Int32)} {n B : Nat} {A : AS} {p : Nat → Nat} {sg : Mg} {kc ks : Nat} {o5 o6 : Option AV} {Q : am_R → Prop} (hX : X.1 < 2147483648) (hn : n + 6 ≤ X.1) (hI : RI B A) (hB : B + 200 ≤ 200000) (hR : RC A p sg) (hM : RM A sg) (nx : NX X n (B + 200) kc ks Q) : hL X 41 k_352 [] K_9 (lwv n o5 o6) [] p sg kc ks Q := by
  have hI2 := hI.mono (B' := B + 200) (by omega) hB
  have n12 := hI.2.2.2.1
  exact lc_8 (Af := A) (As := A) (cv := personR A.S (X.2 (n + 1)) (X.2 (n + 2))) hX hn (w_324 (ex := fun c => if c = 1 then 2 else 3) n12 le_person rfl rfl (gF_mono (c_person (d := 37) hI.1 hR.2.1.1 hR.2.1.2.1) (fun r hr => cR_ask hR hr))) (mOK.of hM (fun _ => hI2) (fun _ => hI2) (fun p' s hM' => gF_mono (m_person (d := 38) hI.1 hM'.1) (fun r hr => mR_ask hM' hr))) (nI_z (Nat.le_trans le_person (by decide))) nx
/-- road -/
theorem ld_9 {X : Nat × (Nat → Int32)} {n B : Nat} {A : AS} {p : Nat → Nat} {sg : Mg} {kc ks : Nat} {o5 o6 : Option AV} {Q : am_R → Prop} (hX : X.1 < 2147483648) (hn : n + 6 ≤ X.1) (hI : RI B A) (hB : B + 200 ≤ 200000) (hR : RC A p sg) (hM : RM A sg) (nx : NX X n (B + 200) kc ks Q) : hL X 41 k_352 [] K_10 (lwv n o5 o6) [] p sg kc ks Q := by
  have hI2 := hI.mono (B' := B + 200) (by omega) hB
  have n12 := hI.2.2.2.1
  exact lc_9 (Af := A) (As := A) (cv := roadR A.S (X.2 (n + 1)) (X.2 (n + 2))) hX hn (w_325 (ex := fun c => if c = 1 then 2 else 3) n12 le_road rfl rfl (gF_mono (c_road (d := 36) hI.1 hR.2.1.1 hR.2.1.2.1) (fun r hr => cR_ask hR hr))) (mOK.of hM (fun _ => hI2) (fun _ => hI2) (fun p' s hM' => gF_mono (m_road (d := 38) hI.1 hM'.1) (fun r hr => mR_ask hM' hr))) (nI_z (Nat.le_trans le_road (by decide))) nx
/-- debt -/
theorem ld_10 {X : Nat × (Nat → Int32)} {n B : Nat} {A : AS} {p : Nat → Nat} {sg : Mg} {kc ks : Nat} {o5 o6 : Option AV} {Q : am_R → Prop} (hX : X.1 < 2147483648) (hn : n + 6 ≤ X.1) (hI : RI B A) (hB : B + 200 ≤ 200000) (hR : RC A p sg) (hM : RM A sg) (nx : NX X n (B + 200) kc ks Q) : hL X 41 k_352 [] K_11 (lwv n o5 o6) [] p sg kc ks Q := by
  have hI2 := hI.mono (B' := B + 200) (by omega) hB
  have n12 := hI.2.2.2.1
  exact lc_10 (Af := A) (As := A) (cv := debtR A.S (X.2 (n + 1)) (X.2 (n + 2))) hX hn (w_326 (ex := fun c => if c = 1 then 2 else 3) n12 le_debt rfl rfl (gF_mono (c_debt (d := 36) hI.1 hR.2.1.1 hR.2.1.2.1) (fun r hr => cR_ask hR hr))) (mOK.of hM (fun _ => hI2) (fun _ => hI2) (fun p' s hM' => gF_mono (m_debt (d := 38) hI.1 hM'.1) (fun r hr => mR_ask hM' hr))) (nI_z (Nat.le_trans le_debt (by decide))) nx
/-- task -/
theorem ld_11 {X : Nat × (Nat → Int32)} {n B : Nat} {A : AS} {p : Nat → Nat} {sg : Mg} {kc ks : Nat} {o5 o6 : Option AV} {Q : am_R → Prop} (hX : X.1 < 2147483648) (hn : n + 6 ≤ X.1) (hI : RI B A) (hB : B + 200 ≤ 200000) (hR : RC A p sg) (hM : RM A sg) (nx : NX X n (B + 200) kc ks Q) : hL X 41 k_352 [] K_12 (lwv n o5 o6) [] p sg kc ks Q := by
  have hI2 := hI.mono (B' := B + 200) (by omega) hB
  have n12 := hI.2.2.2.1
  exact lc_11 (Af := A) (As := A) (cv := taskR A.S (X.2 (n + 1)) (X.2 (n + 2))) hX hn (w_327 (ex := fun c => if c = 1 then 2 else 3) n12 le_task rfl rfl (gF_mono (c_task (d := 36) hI.1 hR.2.1.1 hR.2.1.2.1) (fun r hr => cR_ask hR hr))) (mOK.of hM (fun _ => hI2) (fun _ => hI2) (fun p' s hM' => gF_mono (m_task (d := 38) hI.1 hM'.1) (fun r hr => mR_ask hM' hr))) (nI_z (Nat.le_trans le_task (by decide))) nx
/-- fact -/
theorem ld_12 {X : Nat × (Nat → Int32)} {n B : Nat} {A : AS} {p : Nat → Nat} {sg : Mg} {kc ks : Nat} {o5 o6 : Option AV} {Q : am_R → Prop} (hX : X.1 < 2147483648) (hn : n + 6 ≤ X.1) (hI : RI B A) (hB : B + 200 ≤ 200000) (hR : RC A p sg) (hM : RM A sg) (nx : NX X n (B + 200) kc ks Q) : hL X 41 k_352 [] K_13 (lwv n o5 o6) [] p sg kc ks Q := by
  have hI2 := hI.mono (B' := B + 200) (by omega) hB
  have n12 := hI.2.2.2.1
  exact lc_12 (Af := A) (As := A) (cv := factR A.S (X.2 (n + 1)) (X.2 (n + 2) ≠ 0)) hX hn (w_328 (ex := fun _ => 2) n12 le_fact rfl (gF_mono (c_fact (d := 36) hI.1 hR.2.1.1 hR.2.1.2.1) (fun r hr => cR_ask hR hr))) (mOK.of hM (fun _ => hI2) (fun _ => hI2) (fun p' s hM' => gF_mono (m_fact (d := 38) hI.1 hM'.1) (fun r hr => mR_ask hM' hr))) (nI_z (Nat.le_trans le_fact (by decide))) nx
/-- rule -/
theorem ld_13 {X : Nat × (Nat → Int32)} {n B : Nat} {A : AS} {p : Nat → Nat} {sg : Mg} {kc ks : Nat} {o5 o6 : Option AV} {Q : am_R → Prop} (hX : X.1 < 2147483648) (hn : n + 6 ≤ X.1) (hI : RI B A) (hB : B + 200 ≤ 200000) (hR : RC A p sg) (hM : RM A sg) (nx : NX X n (B + 200) kc ks Q) : hL X 41 k_352 [] K_14 (lwv n o5 o6) [] p sg kc ks Q := by
  have hI2 := hI.mono (B' := B + 200) (by omega) hB
  have n12 := hI.2.2.2.1
  exact lc_13 (Af := A) (As := A) (cv := ruleR A.S (X.2 (n + 1)) (X.2 (n + 2)) (X.2 (n + 3))) hX hn (w_329 (ex := fun c => if c = 1 then 2 else 3) n12 le_rule rfl rfl (c_rule (d := 33) hI hR)) (mOK.of hM (fun _ => hI2) (fun _ => hI2) (fun p' s hM' => m_rule (d := 33) hI hM')) (nI_z (Nat.le_trans le_rule (by decide))) nx
/-- go -/
theorem ld_14 {X : Nat × (Nat → Int32)} {n B : Nat} {A : AS} {p : Nat → Nat} {sg : Mg} {kc ks : Nat} {o5 o6 : Option AV} {Q : am_R → Prop} (hX : X.1 < 2147483648) (hn : n + 6 ≤ X.1) (hI : RI B A) (hB : B + 200 ≤ 200000) (hR : RC A p sg) (hM : RM A sg) (nx : NX X n (B + 200) kc ks Q) : hL X 41 k_352 [] K_15 (lwv n o5 o6) [] p sg kc ks Q := by
  have hI2 := hI.mono (B' := B + 200) (by omega) hB
  have n12 := hI.2.2.2.1
  exact lc_14 (Af := A) (As := A.act (goT A.S (X.2 (n + 1)).toNatClampNeg (X.2 (n + 2)).toNatClampNeg)) (cv := goR A.S (X.2 (n + 1)) (X.2 (n + 2))) hX hn (w_330 (ex := fun c => if c = 1 then 2 else 4) (Nat.min_le_right _ _) le_go rfl rfl (c_go (d := 33) hI hR)) (mOK.of hM (fun _ => hI2) (fun c0 => po_go hI2 c0) (fun p' s hM' => m_go (d := 32) hI hM')) (nI_z (Nat.le_trans le_go (by decide))) nx
/-- give -/
theorem ld_15 {X : Nat × (Nat → Int32)} {n B : Nat} {A : AS} {p : Nat → Nat} {sg : Mg} {kc ks : Nat} {o5 o6 : Option AV} {Q : am_R → Prop} (hX : X.1 < 2147483648) (hn : n + 6 ≤ X.1) (hI : RI B A) (hB : B + 200 ≤ 200000) (hR : RC A p sg) (hM : RM A sg) (nx : NX X n (B + 200) kc ks Q) : hL X 41 k_352 [] K_16 (lwv n o5 o6) [] p sg kc ks Q := by
  have hI2 := hI.mono (B' := B + 200) (by omega) hB
  have n12 := hI.2.2.2.1
  exact lc_15 (Af := A) (As := A.act (gvT A.S (X.2 (n + 1)).toNatClampNeg (X.2 (n + 2)).toNatClampNeg (X.2 (n + 3)).toNatClampNeg)) (cv := giveR A.S (X.2 (n + 1)) (X.2 (n + 2)) (X.2 (n + 3))) hX hn (w_331 (ex := fun c => if c = 1 then 2 else if c = 2 then 0 else 4) (Nat.min_le_right _ _) le_give rfl rfl rfl (c_give (d := 33) hI hR)) (mOK.of hM (fun _ => hI2) (fun c0 => po_give hI2 c0) (fun p' s hM' => m_give (d := 34) hI hM')) (nI_z (Nat.le_trans le_give (by decide))) nx
/-- work -/
theorem ld_16 {X : Nat × (Nat → Int32)} {n B : Nat} {A : AS} {p : Nat → Nat} {sg : Mg} {kc ks : Nat} {o5 o6 : Option AV} {Q : am_R → Prop} (hX : X.1 < 2147483648) (hn : n + 6 ≤ X.1) (hI : RI B A) (hB : B + 200 ≤ 200000) (hR : RC A p sg) (hM : RM A sg) (nx : NX X n (B + 200) kc ks Q) : hL X 41 k_352 [] K_17 (lwv n o5 o6) [] p sg kc ks Q := by
  have hI2 := hI.mono (B' := B + 200) (by omega) hB
  have n12 := hI.2.2.2.1
  exact lc_16 (Af := A) (As := A.act (wkT A.S (X.2 (n + 1)).toNatClampNeg (X.2 (n + 2)).toNatClampNeg)) (cv := workR A.S (X.2 (n + 1)) (X.2 (n + 2))) hX hn (w_332 (ex := fun c => if c = 1 then 2 else 4) (Nat.min_le_right _ _) le_work rfl rfl (c_work (d := 33) hI hR)) (mOK.of hM (fun _ => hI2) (fun c0 => po_work hI2 c0) (fun p' s hM' => m_work (d := 34) hI hM')) (nI_z (Nat.le_trans le_work (by decide))) nx
/-- tell -/
theorem ld_17 {X : Nat × (Nat → Int32)} {n B : Nat} {A : AS} {p : Nat → Nat} {sg : Mg} {kc ks : Nat} {o5 o6 : Option AV} {Q : am_R → Prop} (hX : X.1 < 2147483648) (hn : n + 6 ≤ X.1) (hI : RI B A) (hB : B + 200 ≤ 200000) (hR : RC A p sg) (hM : RM A sg) (nx : NX X n (B + 200) kc ks Q) : hL X 41 k_352 [] K_18 (lwv n o5 o6) [] p sg kc ks Q := by
  have hI2 := hI.mono (B' := B + 200) (by omega) hB
  have n12 := hI.2.2.2.1
  exact lc_17 (Af := A) (As := A.act (lrS A.S (X.2 (n + 1)).toNatClampNeg (X.2 (n + 2)).toNatClampNeg 8)) (cv := tellR A.S (X.2 (n + 1)) (X.2 (n + 2))) hX hn (w_333 (ex := fun _ => 2) (Nat.min_le_right _ _) le_tell rfl (c_tell (d := 33) hI hR)) (mOK.of hM (fun _ => hI2) (fun c0 => po_tell hI2 c0) (fun p' s hM' => m_tell (d := 34) hI hM')) (nI_z (Nat.le_trans le_tell (by decide))) nx
/-- dawns -/
theorem ld_18 {X : Nat × (Nat → Int32)} {n B : Nat} {A : AS} {p : Nat → Nat} {sg : Mg} {kc ks : Nat} {o5 o6 : Option AV} {Q : am_R → Prop} (hX : X.1 < 2147483648) (hn : n + 6 ≤ X.1) (hI : RI B A) (hB : B + 200 ≤ 200000) (hR : RC A p sg) (hM : RM A sg) (nx : NX X n (B + 200) kc ks Q) : hL X 41 k_352 [] K_19 (lwv n o5 o6) [] p sg kc ks Q := by
  have hI2 := hI.mono (B' := B + 200) (by omega) hB
  have n12 := hI.2.2.2.1
  exact lc_18 (Af := A) (As := A.act ((dws A.S (X.2 (n + 1)).toNatClampNeg).1)) (cv := dawnsR A.S (X.2 (n + 1))) hX hn (w_334 (ex := fun _ => 0) (Nat.min_le_right _ _) le_dawns rfl (c_dawns (d := 31) hI hR hB)) (mOK.of hM (fun _ => hI2) (fun c0 => po_dawns hI hB c0) (fun p' s hM' => m_dawns (d := 32) hI hM' hB)) (nI_z (Nat.le_trans le_dawns (by decide))) nx
/-- soonest -/
theorem ld_19 {X : Nat × (Nat → Int32)} {n B : Nat} {A : AS} {p : Nat → Nat} {sg : Mg} {kc ks : Nat} {o5 o6 : Option AV} {Q : am_R → Prop} (hX : X.1 < 2147483648) (hn : n + 6 ≤ X.1) (hI : RI B A) (hB : B + 200 ≤ 200000) (hR : RC A p sg) (hM : RM A sg) (nx : NX X n (B + 200) kc ks Q) : hL X 41 k_352 [] K_20 (lwv n o5 o6) [] p sg kc ks Q := by
  have hI2 := hI.mono (B' := B + 200) (by omega) hB
  have n12 := hI.2.2.2.1
  exact lc_19 (Af := A) (As := A) (cv := soonestR A.S (X.2 (n + 1)) (X.2 (n + 2)) (X.2 (n + 3))) hX hn (w_335 (ex := fun _ => 2) n12 le_soonest rfl (c_soonest (d := 31) hI hR)) (mOK.of hM (fun _ => hI2) (fun _ => hI2) (fun p' s hM' => m_soonest (d := 29) hI hM')) (nI_z (Nat.le_trans le_soonest (by decide))) nx
/-- first -/
theorem ld_20 {X : Nat × (Nat → Int32)} {n B : Nat} {A : AS} {p : Nat → Nat} {sg : Mg} {kc ks : Nat} {o5 o6 : Option AV} {Q : am_R → Prop} (hX : X.1 < 2147483648) (hn : n + 6 ≤ X.1) (hI : RI B A) (hB : B + 200 ≤ 200000) (hR : RC A p sg) (hM : RM A sg) (nx : NX X n (B + 200) kc ks Q) : hL X 41 k_352 [] K_21 (lwv n o5 o6) [] p sg kc ks Q := by
  have hI2 := hI.mono (B' := B + 200) (by omega) hB
  have n12 := hI.2.2.2.1
  exact lc_20 (Af := A) (As := A) (cv := firstR A.S (X.2 (n + 1)) (X.2 (n + 2)) (X.2 (n + 3))) hX hn (w_336 (ex := fun _ => 2) n12 le_first rfl (c_first (d := 31) hI hR)) (mOK.of hM (fun _ => hI2) (fun _ => hI2) (fun p' s hM' => m_first (d := 29) hI hM')) (nI_z (Nat.le_trans le_first (by decide))) nx
/-- meeting -/
theorem ld_21 {X : Nat × (Nat → Int32)} {n B : Nat} {A : AS} {p : Nat → Nat} {sg : Mg} {kc ks : Nat} {o5 o6 : Option AV} {Q : am_R → Prop} (hX : X.1 < 2147483648) (hn : n + 6 ≤ X.1) (hI : RI B A) (hB : B + 200 ≤ 200000) (hR : RC A p sg) (hM : RM A sg) (nx : NX X n (B + 200) kc ks Q) : hL X 41 k_352 [] K_22 (lwv n o5 o6) [] p sg kc ks Q := by
  have hI2 := hI.mono (B' := B + 200) (by omega) hB
  have n12 := hI.2.2.2.1
  exact lc_21 (Af := A) (As := A) (cv := meetingR A.S (X.2 (n + 1)) (X.2 (n + 2)) (X.2 (n + 3) ≠ 0)) hX hn (w_337 (ex := fun c => if c = 1 then 2 else 0) n12 le_meeting rfl rfl (c_meeting (d := 30) hI hR)) (mOK.of hM (fun _ => hI2) (fun _ => hI2) (fun p' s hM' => m_meeting (d := 30) hI hM')) (nI_z (Nat.le_trans le_meeting (by decide))) nx
/-- cone -/
theorem ld_22 {X : Nat × (Nat → Int32)} {n B : Nat} {A : AS} {p : Nat → Nat} {sg : Mg} {kc ks : Nat} {o5 o6 : Option AV} {Q : am_R → Prop} (hX : X.1 < 2147483648) (hn : n + 6 ≤ X.1) (hI : RI B A) (hB : B + 200 ≤ 200000) (hR : RC A p sg) (hM : RM A sg) (nx : NX X n (B + 200) kc ks Q) : hL X 41 k_352 [] K_23 (lwv n o5 o6) [] p sg kc ks Q := by
  have hI2 := hI.mono (B' := B + 200) (by omega) hB
  have n12 := hI.2.2.2.1
  exact lc_22 (Af := A) (As := A) (cv := coneR A.S (X.2 (n + 1)) (X.2 (n + 2))) hX hn (w_338 (ex := fun c => if c = 1 then 2 else 0) n12 le_cone rfl rfl (c_cone (d := 30) hI hR)) (mOK.of hM (fun _ => hI2) (fun _ => hI2) (fun p' s hM' => m_cone (d := 30) hI hM')) (nI_z (Nat.le_trans le_cone (by decide))) nx
/-- warned -/
theorem ld_23 {X : Nat × (Nat → Int32)} {n B : Nat} {A : AS} {p : Nat → Nat} {sg : Mg} {kc ks : Nat} {o5 o6 : Option AV} {Q : am_R → Prop} (hX : X.1 < 2147483648) (hn : n + 6 ≤ X.1) (hI : RI B A) (hB : B + 200 ≤ 200000) (hR : RC A p sg) (hM : RM A sg) (nx : NX X n (B + 200) kc ks Q) : hL X 41 k_352 [] K_24 (lwv n o5 o6) [] p sg kc ks Q := by
  have hI2 := hI.mono (B' := B + 200) (by omega) hB
  have n12 := hI.2.2.2.1
  exact lc_23 (Af := A) (As := A) (cv := warnedR A.S (X.2 (n + 1)) (X.2 (n + 2))) hX hn (w_339 (ex := fun c => if c = 1 then 2 else 0) n12 le_warned rfl rfl (c_warned (d := 30) hI hR)) (mOK.of hM (fun _ => hI2) (fun _ => hI2) (fun p' s hM' => m_warned (d := 29) hI hM')) (nI_z (Nat.le_trans le_warned (by decide))) nx
/-- least -/
theorem ld_24 {X : Nat × (Nat → Int32)} {n B : Nat} {A : AS} {p : Nat → Nat} {sg : Mg} {kc ks : Nat} {o5 o6 : Option AV} {Q : am_R → Prop} (hX : X.1 < 2147483648) (hn : n + 6 ≤ X.1) (hI : RI B A) (hB : B + 200 ≤ 200000) (hR : RC A p sg) (hM : RM A sg) (nx : NX X n (B + 200) kc ks Q) : hL X 41 k_352 [] K_25 (lwv n o5 o6) [] p sg kc ks Q := by
  have hI2 := hI.mono (B' := B + 200) (by omega) hB
  have n12 := hI.2.2.2.1
  exact lc_24 (Af := A) (As := A) (cv := leastR A.S (X.2 (n + 1))) hX hn (w_340 (ex := fun _ => 0) n12 le_least rfl (c_least (d := 29) hI hR)) (mOK.of hM (fun _ => hI2) (fun _ => hI2) (fun p' s hM' => m_least (d := 29) hI hM')) (nI_z (Nat.le_trans le_least (by decide))) nx
/-- knew -/
theorem ld_25 {X : Nat × (Nat → Int32)} {n B : Nat} {A : AS} {p : Nat → Nat} {sg : Mg} {kc ks : Nat} {o5 o6 : Option AV} {Q : am_R → Prop} (hX : X.1 < 2147483648) (hn : n + 6 ≤ X.1) (hI : RI B A) (hB : B + 200 ≤ 200000) (hR : RC A p sg) (hM : RM A sg) (nx : NX X n (B + 200) kc ks Q) : hL X 41 k_352 [] K_26 (lwv n o5 o6) [] p sg kc ks Q := by
  have hI2 := hI.mono (B' := B + 200) (by omega) hB
  have n12 := hI.2.2.2.1
  exact lc_25 (Af := A) (As := A) (cv := knewR A.S (X.2 (n + 1)) (X.2 (n + 2))) hX hn (w_341 (ex := fun c => if c = 1 then 2 else 0) n12 le_knew rfl rfl (gF_mono (c_knew (d := 36) hI.1 hR.2.1.1 hR.2.1.2.1) (fun r hr => cR_ask hR hr))) (mOK.of hM (fun _ => hI2) (fun _ => hI2) (fun p' s hM' => gF_mono (m_knew (d := 38) hI.1 hM'.1) (fun r hr => mR_ask hM' hr))) (nI_z (Nat.le_trans le_knew (by decide))) nx
/-- alike -/
theorem ld_26 {X : Nat × (Nat → Int32)} {n B : Nat} {A : AS} {p : Nat → Nat} {sg : Mg} {kc ks : Nat} {o5 o6 : Option AV} {Q : am_R → Prop} (hX : X.1 < 2147483648) (hn : n + 6 ≤ X.1) (hI : RI B A) (hB : B + 200 ≤ 200000) (hR : RC A p sg) (hM : RM A sg) (nx : NX X n (B + 200) kc ks Q) : hL X 41 k_352 [] K_27 (lwv n o5 o6) [] p sg kc ks Q := by
  have hI2 := hI.mono (B' := B + 200) (by omega) hB
  have n12 := hI.2.2.2.1
  exact lc_26 (Af := A) (As := A) (cv := alikeR A.S (X.2 (n + 1)) (X.2 (n + 2)) (X.2 (n + 3) ≠ 0)) hX hn (w_342 (ex := fun _ => 2) n12 le_alike rfl (gF_mono (c_alike (d := 33) hI.1 hR.2.1.1 hR.2.1.2.1) (fun r hr => cR_ask hR hr))) (mOK.of hM (fun _ => hI2) (fun _ => hI2) (fun p' s hM' => gF_mono (m_alike (d := 37) hI.1 hM'.1) (fun r hr => mR_ask hM' hr))) (nI_z (Nat.le_trans le_alike (by decide))) nx
/-- touch -/
theorem ld_27 {X : Nat × (Nat → Int32)} {n B : Nat} {A : AS} {p : Nat → Nat} {sg : Mg} {kc ks : Nat} {o5 o6 : Option AV} {Q : am_R → Prop} (hX : X.1 < 2147483648) (hn : n + 6 ≤ X.1) (hI : RI B A) (hB : B + 200 ≤ 200000) (hR : RC A p sg) (hM : RM A sg) (nx : NX X n (B + 200) kc ks Q) : hL X 41 k_352 [] K_28 (lwv n o5 o6) [] p sg kc ks Q := by
  have hI2 := hI.mono (B' := B + 200) (by omega) hB
  have n12 := hI.2.2.2.1
  exact lc_27 (Af := A) (As := A) (cv := touchR A.S (X.2 (n + 1)) (X.2 (n + 2)) (X.2 (n + 3) ≠ 0)) hX hn (w_343 (ex := fun c => if c = 1 then 2 else 0) n12 le_touch rfl rfl (gF_mono (c_touch (d := 33) hI.1 hR.2.1.1 hR.2.1.2.1) (fun r hr => cR_ask hR hr))) (mOK.of hM (fun _ => hI2) (fun _ => hI2) (fun p' s hM' => gF_mono (m_touch (d := 37) hI.1 hM'.1) (fun r hr => mR_ask hM' hr))) (nI_z (Nat.le_trans le_touch (by decide))) nx
/-- round -/
theorem ld_28 {X : Nat × (Nat → Int32)} {n B : Nat} {A : AS} {p : Nat → Nat} {sg : Mg} {kc ks : Nat} {o5 o6 : Option AV} {Q : am_R → Prop} (hX : X.1 < 2147483648) (hn : n + 6 ≤ X.1) (hI : RI B A) (hB : B + 200 ≤ 200000) (hR : RC A p sg) (hM : RM A sg) (nx : NX X n (B + 200) kc ks Q) : hL X 41 k_352 [] K_29 (lwv n o5 o6) [] p sg kc ks Q := by
  have hI2 := hI.mono (B' := B + 200) (by omega) hB
  have n12 := hI.2.2.2.1
  exact lc_28 (Af := A) (As := A) (cv := roundR A.S (X.2 (n + 1)) (X.2 (n + 2))) hX hn (w_344 (ex := fun c => if c = 1 then 2 else 0) n12 le_round rfl rfl (gF_mono (c_round (d := 32) hI.1 hR.2.1.1 hR.2.1.2.1) (fun r hr => cR_ask hR hr))) (mOK.of hM (fun _ => hI2) (fun _ => hI2) (fun p' s hM' => gF_mono (m_round (d := 37) hI.1 hM'.1) (fun r hr => mR_ask hM' hr))) (nI_z (Nat.le_trans le_round (by decide))) nx
/-- bread -/
theorem ld_29 {X : Nat × (Nat → Int32)} {n B : Nat} {A : AS} {p : Nat → Nat} {sg : Mg} {kc ks : Nat} {o5 o6 : Option AV} {Q : am_R → Prop} (hX : X.1 < 2147483648) (hn : n + 6 ≤ X.1) (hI : RI B A) (hB : B + 200 ≤ 200000) (hR : RC A p sg) (hM : RM A sg) (nx : NX X n (B + 200) kc ks Q) : hL X 41 k_352 [] K_30 (lwv n o5 o6) [] p sg kc ks Q := by
  have hI2 := hI.mono (B' := B + 200) (by omega) hB
  have n12 := hI.2.2.2.1
  have hU := RI.use hI2
  exact lc_29 (Af := useA A) (As := useA A) (cv := breadR A) hX hn (w_345 (ex := fun _ => 0) hU.2.2.2.1 le_bread rfl (c_bread (d := 33) hI hR)) (mOK.of hM (fun _ => hU) (fun _ => hU) (fun p' s hM' => m_bread (d := 35) hI hM')) (nI_z (Nat.le_trans le_bread (by decide))) nx
/-- tables -/
theorem ld_30 {X : Nat × (Nat → Int32)} {n B : Nat} {A : AS} {p : Nat → Nat} {sg : Mg} {kc ks : Nat} {o5 o6 : Option AV} {Q : am_R → Prop} (hX : X.1 < 2147483648) (hn : n + 6 ≤ X.1) (hI : RI B A) (hB : B + 200 ≤ 200000) (hR : RC A p sg) (hM : RM A sg) (nx : NX X n (B + 200) kc ks Q) : hL X 41 k_352 [] K_31 (lwv n o5 o6) [] p sg kc ks Q := by
  have hI2 := hI.mono (B' := B + 200) (by omega) hB
  have n12 := hI.2.2.2.1
  have hU := RI.use hI2
  exact lc_30 (Af := useA A) (As := useA A) (cv := tablesR A) hX hn (w_346 (ex := fun _ => 0) hU.2.2.2.1 le_tables rfl (c_tables (d := 25) hI hR)) (mOK.of hM (fun _ => hU) (fun _ => hU) (fun p' s hM' => m_tables (d := 35) hI hM')) (nI_z (Nat.le_trans le_tables (by decide))) nx
/-- early -/
theorem ld_31 {X : Nat × (Nat → Int32)} {n B : Nat} {A : AS} {p : Nat → Nat} {sg : Mg} {kc ks : Nat} {o5 o6 : Option AV} {Q : am_R → Prop} (hX : X.1 < 2147483648) (hn : n + 6 ≤ X.1) (hI : RI B A) (hB : B + 200 ≤ 200000) (hR : RC A p sg) (hM : RM A sg) (nx : NX X n (B + 200) kc ks Q) : hL X 41 k_352 [] K_32 (lwv n o5 o6) [] p sg kc ks Q := by
  have hI2 := hI.mono (B' := B + 200) (by omega) hB
  have n12 := hI.2.2.2.1
  exact lc_31 (Af := A) (As := A) (cv := earlyR A.S (X.2 (n + 1))) hX hn (w_347 (ex := fun _ => 2) n12 le_early rfl (gF_mono (c_early (d := 37) hI.1 hR.2.1.1 hR.2.1.2.1) (fun r hr => cR_ask hR hr))) (mOK.of hM (fun _ => hI2) (fun _ => hI2) (fun p' s hM' => gF_mono (m_early (d := 38) hI.1 hM'.1) (fun r hr => mR_ask hM' hr))) (nI_z (Nat.le_trans le_early (by decide))) nx
/-- netted -/
theorem ld_32 {X : Nat × (Nat → Int32)} {n B : Nat} {A : AS} {p : Nat → Nat} {sg : Mg} {kc ks : Nat} {o5 o6 : Option AV} {Q : am_R → Prop} (hX : X.1 < 2147483648) (hn : n + 6 ≤ X.1) (hI : RI B A) (hB : B + 200 ≤ 200000) (hR : RC A p sg) (hM : RM A sg) (nx : NX X n (B + 200) kc ks Q) : hL X 41 k_352 [] K_33 (lwv n o5 o6) [] p sg kc ks Q := by
  have hI2 := hI.mono (B' := B + 200) (by omega) hB
  have n12 := hI.2.2.2.1
  exact lc_32 (Af := A) (As := A) (cv := nettedR A.S (X.2 (n + 1))) hX hn (w_348 (ex := fun _ => 2) n12 le_netted rfl (c_netted (d := 35) hI hR)) (mOK.of hM (fun _ => hI2) (fun _ => hI2) (fun p' s hM' => m_netted (d := 35) hI hM')) (nI_z (Nat.le_trans le_netted (by decide))) nx
/-- feasted -/
theorem ld_33 {X : Nat × (Nat → Int32)} {n B : Nat} {A : AS} {p : Nat → Nat} {sg : Mg} {kc ks : Nat} {o5 o6 : Option AV} {Q : am_R → Prop} (hX : X.1 < 2147483648) (hn : n + 6 ≤ X.1) (hI : RI B A) (hB : B + 200 ≤ 200000) (hR : RC A p sg) (hM : RM A sg) (nx : NX X n (B + 200) kc ks Q) : hL X 41 k_352 [] K_34 (lwv n o5 o6) [] p sg kc ks Q := by
  have hI2 := hI.mono (B' := B + 200) (by omega) hB
  have n12 := hI.2.2.2.1
  exact lc_33 (Af := A) (As := A) (cv := feastedR A.S (X.2 (n + 1)) (X.2 (n + 2))) hX hn (w_349 (ex := fun c => if c = 1 then 2 else 0) n12 le_feasted rfl rfl (c_feasted (d := 31) hI hR)) (mOK.of hM (fun _ => hI2) (fun _ => hI2) (fun p' s hM' => m_feasted (d := 32) hI hM')) (nI_z (Nat.le_trans le_feasted (by decide))) nx
/-- plan -/
theorem ld_34 {X : Nat × (Nat → Int32)} {n B : Nat} {A : AS} {p : Nat → Nat} {sg : Mg} {kc ks : Nat} {o5 o6 : Option AV} {Q : am_R → Prop} (hX : X.1 < 2147483648) (hn : n + 6 ≤ X.1) (hI : RI B A) (hB : B + 200 ≤ 200000) (hR : RC A p sg) (hM : RM A sg) (nx : NX X n (B + 200) kc ks Q) : hL X 41 k_352 [] K_35 (lwv n o5 o6) [] p sg kc ks Q := by
  have hI2 := hI.mono (B' := B + 200) (by omega) hB
  have n12 := hI.2.2.2.1
  exact lc_34 (Af := A) (As := A) (cv := planR A.S (X.2 (n + 1)) (X.2 (n + 2)) (X.2 (n + 3) ≠ 0)) hX hn (w_350 (ex := fun _ => 2) n12 le_plan rfl (c_plan (d := 26) hI hR)) (mOK.of hM (fun _ => hI2) (fun _ => hI2) (fun p' s hM' => m_plan (d := 29) hI hM')) (nI_z (Nat.le_trans le_plan (by decide))) nx
/-- log -/
theorem ld_35 {X : Nat × (Nat → Int32)} {n B : Nat} {A : AS} {p : Nat → Nat} {sg : Mg} {kc ks : Nat} {o5 o6 : Option AV} {Q : am_R → Prop} (hX : X.1 < 2147483648) (hn : n + 6 ≤ X.1) (hI : RI B A) (hB : B + 200 ≤ 200000) (hR : RC A p sg) (hM : RM A sg) (nx : NX X n (B + 200) kc ks Q) : hL X 41 k_352 [] K_36 (lwv n o5 o6) [] p sg kc ks Q := by
  have hI2 := hI.mono (B' := B + 200) (by omega) hB
  have n12 := hI.2.2.2.1
  exact lc_35 (Af := A) (As := A) (cv := logR A.S (X.2 (n + 1)) (X.2 (n + 2))) hX hn (w_351 (ex := fun _ => 3) n12 le_log rfl (gF_mono (c_log (d := 37) hI.1 hR.2.1.1 hR.2.1.2.1) (fun r hr => cR_ask hR hr))) (mOK.of hM (fun _ => hI2) (fun _ => hI2) (fun p' s hM' => gF_mono (m_log (d := 39) hI.1 hM'.1) (fun r hr => mR_ask hM' hr))) (nI_z (Nat.le_trans le_log (by decide))) nx
/-- seed -/
theorem ld_36 {X : Nat × (Nat → Int32)} {n B : Nat} {A : AS} {p : Nat → Nat} {sg : Mg} {kc ks : Nat} {o5 o6 : Option AV} {Q : am_R → Prop} (hX : X.1 < 2147483648) (hn : n + 6 ≤ X.1) (hI : RI B A) (hB : B + 200 ≤ 200000) (hR : RC A p sg) (hM : RM A sg) (nx : NX X n (B + 200) kc ks Q) : hL X 41 k_352 [] K_37 (lwv n o5 o6) [] p sg kc ks Q := by
  have hI2 := hI.mono (B' := B + 200) (by omega) hB
  have n12 := hI.2.2.2.1
  have hU := RI.seed (x := X.2 (n + 1)) hI2
  exact lc_36 (As := seedA A (X.2 (n + 1))) (v := A.S 16) hX hn (gF_mono (c_seedR (d := 40) hI hR) (fun r hr => hr.ok)) (mOK.of hM (fun _ => hU) (fun _ => hU) (fun p' s hM' => gF_mono (m_seedR (d := 40) hI hM') (fun r hr => hr.ok))) nx
/-- undo -/
theorem ld_37 {X : Nat × (Nat → Int32)} {n B : Nat} {A : AS} {p : Nat → Nat} {sg : Mg} {kc ks : Nat} {o5 o6 : Option AV} {Q : am_R → Prop} (hX : X.1 < 2147483648) (hn : n + 6 ≤ X.1) (hI : RI B A) (hB : B + 200 ≤ 200000) (hR : RC A p sg) (hM : RM A sg) (nx : NX X n (B + 200) kc ks Q) : hL X 41 k_352 [] K_38 (lwv n o5 o6) [] p sg kc ks Q := by
  have hI2 := hI.mono (B' := B + 200) (by omega) hB
  have n12 := hI.2.2.2.1
  have hU := RI.undo hI2
  exact lc_37 (As := undoA A) (v := undoV A) hX hn (gF_mono (c_undoR (d := 36) hI hR) (fun r hr => hr.ok)) (mOK.of hM (fun _ => hU) (fun _ => hU) (fun p' s hM' => gF_mono (m_undoR (d := 40) hI hM') (fun r hr => hr.ok))) nx
/-- image -/
theorem ld_38 {X : Nat × (Nat → Int32)} {n B : Nat} {A : AS} {p : Nat → Nat} {sg : Mg} {kc ks : Nat} {o5 o6 : Option AV} {Q : am_R → Prop} (hX : X.1 < 2147483648) (hn : n + 6 ≤ X.1) (hI : RI B A) (hB : B + 200 ≤ 200000) (hR : RC A p sg) (hM : RM A sg) (nx : NX X n (B + 200) kc ks Q) : hL X 41 k_352 [] K_39 (lwv n o5 o6) [] p sg kc ks Q := by
  have hI2 := hI.mono (B' := B + 200) (by omega) hB
  have n12 := hI.2.2.2.1
  have hU := RI.image hI2
  exact lc_38 (As := imageA A) hX hn (c_imageR (d := 35) hI hR) (fun p' s hs hC => gF_mono (m_imageR (d := 40) (hM.hi hs)) (fun r hr => by
    obtain ⟨s2, e, t, hM2, rfl⟩ := hr
    exact ⟨s2, rfl, hU, hC.lo8 hU.2.2.2.1 e, hM2⟩)) nx
/-- back -/
theorem ld_39 {X : Nat × (Nat → Int32)} {n B : Nat} {A : AS} {p : Nat → Nat} {sg : Mg} {kc ks : Nat} {o5 o6 : Option AV} {Q : am_R → Prop} (hX : X.1 < 2147483648) (hn : n + 6 ≤ X.1) (hI : RI B A) (hB : B + 200 ≤ 200000) (hR : RC A p sg) (hM : RM A sg) (nx : NX X n (B + 200) kc ks Q) : hL X 41 k_352 [] K_40 (lwv n o5 o6) [] p sg kc ks Q := by
  have hI2 := hI.mono (B' := B + 200) (by omega) hB
  have n12 := hI.2.2.2.1
  have hU := RI.bck hI2
  exact lc_39 (As := bckA A) (v := backV A) hX hn (gF_mono (c_bck (d := 35) hI hR) (fun r hr => hr.ok)) (mOK.of hM (fun _ => hU) (fun _ => hU) (fun p' s hM' => gF_mono (m_bck (d := 40) hI hM') (fun r hr => hr.ok))) nx
/-- count -/
theorem ld_40 {X : Nat × (Nat → Int32)} {n B : Nat} {A : AS} {p : Nat → Nat} {sg : Mg} {kc ks : Nat} {o5 o6 : Option AV} {Q : am_R → Prop} (hX : X.1 < 2147483648) (hn : n + 6 ≤ X.1) (hI : RI B A) (hB : B + 200 ≤ 200000) (hR : RC A p sg) (hM : RM A sg) (nx : NX X n (B + 200) kc ks Q) : hL X 41 k_352 [] K_41 (lwv n o5 o6) [] p sg kc ks Q := by
  have hI2 := hI.mono (B' := B + 200) (by omega) hB
  have n12 := hI.2.2.2.1
  have hU := hI2
  exact lc_40 (As := A) (v := countR A (X.2 (n + 1))) hX hn (gF_mono (c_countR (d := 37) hI hR) (fun r hr => hr.ok)) (mOK.of hM (fun _ => hU) (fun _ => hU) (fun p' s hM' => gF_mono (m_countR (d := 37) hI hM') (fun r hr => hr.ok))) nx
