/-! .. of the law itself -/
theorem am_ckM_21 : k_352_21.all (fun e => decide (decode (am_b 352) e.1 = .ok (e.2.1, e.2.2.1 - e.1))) = true := by decide +kernel
theorem am_ckM_22 : k_352_22.all (fun e => decide (decode (am_b 352) e.1 = .ok (e.2.1, e.2.2.1 - e.1))) = true := by decide +kernel
theorem am_ckM_23 : k_352_23.all (fun e => decide (decode (am_b 352) e.1 = .ok (e.2.1, e.2.2.1 - e.1))) = true := by decide +kernel
theorem am_ckM_24 : k_352_24.all (fun e => decide (decode (am_b 352) e.1 = .ok (e.2.1, e.2.2.1 - e.1))) = true := by decide +kernel
theorem am_ckM_25 : k_352_25.all (fun e => decide (decode (am_b 352) e.1 = .ok (e.2.1, e.2.2.1 - e.1))) = true := by decide +kernel
theorem am_ckM_26 : k_352_26.all (fun e => decide (decode (am_b 352) e.1 = .ok (e.2.1, e.2.2.1 - e.1))) = true := by decide +kernel
theorem am_ckM_27 : k_352_27.all (fun e => decide (decode (am_b 352) e.1 = .ok (e.2.1, e.2.2.1 - e.1))) = true := by decide +kernel
theorem am_ckM_28 : k_352_28.all (fun e => decide (decode (am_b 352) e.1 = .ok (e.2.1, e.2.2.1 - e.1))) = true := by decide +kernel
theorem am_ckM_29 : k_352_29.all (fun e => decide (decode (am_b 352) e.1 = .ok (e.2.1, e.2.2.1 - e.1))) = true := by decide +kernel
theorem am_ckM_30 : k_352_30.all (fun e => decide (decode (am_b 352) e.1 = .ok (e.2.1, e.2.2.1 - e.1))) = true := by decide +kernel
theorem am_ckM_31 : k_352_31.all (fun e => decide (decode (am_b 352) e.1 = .ok (e.2.1, e.2.2.1 - e.1))) = true := by decide +kernel
theorem am_ckM_32 : k_352_32.all (fun e => decide (decode (am_b 352) e.1 = .ok (e.2.1, e.2.2.1 - e.1))) = true := by decide +kernel
theorem am_ckM_33 : k_352_33.all (fun e => decide (decode (am_b 352) e.1 = .ok (e.2.1, e.2.2.1 - e.1))) = true := by decide +kernel
theorem am_ckM_34 : k_352_34.all (fun e => decide (decode (am_b 352) e.1 = .ok (e.2.1, e.2.2.1 - e.1))) = true := by decide +kernel
theorem am_ckM_35 : k_352_35.all (fun e => decide (decode (am_b 352) e.1 = .ok (e.2.1, e.2.2.1 - e.1))) = true := by decide +kernel
theorem am_ckM_36 : k_352_36.all (fun e => decide (decode (am_b 352) e.1 = .ok (e.2.1, e.2.2.1 - e.1))) = true := by decide +kernel
theorem am_ckM_37 : k_352_37.all (fun e => decide (decode (am_b 352) e.1 = .ok (e.2.1, e.2.2.1 - e.1))) = true := by decide +kernel
theorem am_ckM_38 : k_352_38.all (fun e => decide (decode (am_b 352) e.1 = .ok (e.2.1, e.2.2.1 - e.1))) = true := by decide +kernel
theorem am_ckM_39 : k_352_39.all (fun e => decide (decode (am_b 352) e.1 = .ok (e.2.1, e.2.2.1 - e.1))) = true := by decide +kernel
theorem am_ckM_40 : k_352_40.all (fun e => decide (decode (am_b 352) e.1 = .ok (e.2.1, e.2.2.1 - e.1))) = true := by decide +kernel
theorem am_ckM_41 : k_352_41.all (fun e => decide (decode (am_b 352) e.1 = .ok (e.2.1, e.2.2.1 - e.1))) = true := by decide +kernel
theorem am_ckD_352 : am_ckD 352 = true := by
  show k_352.all (fun e => decide (decode (am_b 352) e.1 = .ok (e.2.1, e.2.2.1 - e.1))) = true
  simp only [k_352, List.all_append, am_ckM_0, am_ckM_1, am_ckM_2, am_ckM_3, am_ckM_4, am_ckM_5, am_ckM_6, am_ckM_7, am_ckM_8, am_ckM_9, am_ckM_10, am_ckM_11, am_ckM_12, am_ckM_13, am_ckM_14, am_ckM_15, am_ckM_16, am_ckM_17, am_ckM_18, am_ckM_19, am_ckM_20, am_ckM_21, am_ckM_22, am_ckM_23, am_ckM_24, am_ckM_25, am_ckM_26, am_ckM_27, am_ckM_28, am_ckM_29, am_ckM_30, am_ckM_31, am_ckM_32, am_ckM_33, am_ckM_34, am_ckM_35, am_ckM_36, am_ckM_37, am_ckM_38, am_ckM_39, am_ckM_40, am_ckM_41, Bool.and_self]
theorem am_ckD_all (y : Nat) (hy : y < 353) : am_ckD y = true := by
  by_cases h30 : y < 30
  · exact am_all_range am_ckD_0 (by omega) (by omega)
  by_cases h60 : y < 60
  · exact am_all_range am_ckD_30 (by omega) (by omega)
  by_cases h90 : y < 90
  · exact am_all_range am_ckD_60 (by omega) (by omega)
  by_cases h120 : y < 120
  · exact am_all_range am_ckD_90 (by omega) (by omega)
  by_cases h150 : y < 150
  · exact am_all_range am_ckD_120 (by omega) (by omega)
  by_cases h180 : y < 180
  · exact am_all_range am_ckD_150 (by omega) (by omega)
  by_cases h210 : y < 210
  · exact am_all_range am_ckD_180 (by omega) (by omega)
  by_cases h240 : y < 240
  · exact am_all_range am_ckD_210 (by omega) (by omega)
  by_cases h270 : y < 270
  · exact am_all_range am_ckD_240 (by omega) (by omega)
  by_cases h300 : y < 300
  · exact am_all_range am_ckD_270 (by omega) (by omega)
  by_cases h330 : y < 330
  · exact am_all_range am_ckD_300 (by omega) (by omega)
  by_cases h352 : y < 352
  · exact am_all_range am_ckD_330 (by omega) (by omega)
  have e : y = 352 := by omega
  subst e
  exact am_ckD_352
