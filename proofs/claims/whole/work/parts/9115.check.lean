/-! THE ROWS OF CODE ARE WELL FORMED, by program -/
def am_ckL (y : Nat) : Bool := am_okL (am_in y).2.1 (am_mt y).2.1 (am_in y).2.2.1 (am_mt y).1
theorem am_ckL_0 : (List.range' 0 30).all am_ckL = true := by decide +kernel
theorem am_ckL_30 : (List.range' 30 30).all am_ckL = true := by decide +kernel
theorem am_ckL_60 : (List.range' 60 30).all am_ckL = true := by decide +kernel
theorem am_ckL_90 : (List.range' 90 30).all am_ckL = true := by decide +kernel
theorem am_ckL_120 : (List.range' 120 30).all am_ckL = true := by decide +kernel
theorem am_ckL_150 : (List.range' 150 30).all am_ckL = true := by decide +kernel
theorem am_ckL_180 : (List.range' 180 30).all am_ckL = true := by decide +kernel
theorem am_ckL_210 : (List.range' 210 30).all am_ckL = true := by decide +kernel
theorem am_ckL_240 : (List.range' 240 30).all am_ckL = true := by decide +kernel
theorem am_ckL_270 : (List.range' 270 30).all am_ckL = true := by decide +kernel
theorem am_ckL_300 : (List.range' 300 30).all am_ckL = true := by decide +kernel
theorem am_ckL_330 : (List.range' 330 22).all am_ckL = true := by decide +kernel
theorem am_ckL_352 : am_ckL 352 = true := by decide +kernel
theorem am_ckL_all (y : Nat) (hy : y < 353) : am_ckL y = true := by
  by_cases h30 : y < 30
  · exact am_all_range am_ckL_0 (by omega) (by omega)
  by_cases h60 : y < 60
  · exact am_all_range am_ckL_30 (by omega) (by omega)
  by_cases h90 : y < 90
  · exact am_all_range am_ckL_60 (by omega) (by omega)
  by_cases h120 : y < 120
  · exact am_all_range am_ckL_90 (by omega) (by omega)
  by_cases h150 : y < 150
  · exact am_all_range am_ckL_120 (by omega) (by omega)
  by_cases h180 : y < 180
  · exact am_all_range am_ckL_150 (by omega) (by omega)
  by_cases h210 : y < 210
  · exact am_all_range am_ckL_180 (by omega) (by omega)
  by_cases h240 : y < 240
  · exact am_all_range am_ckL_210 (by omega) (by omega)
  by_cases h270 : y < 270
  · exact am_all_range am_ckL_240 (by omega) (by omega)
  by_cases h300 : y < 300
  · exact am_all_range am_ckL_270 (by omega) (by omega)
  by_cases h330 : y < 330
  · exact am_all_range am_ckL_300 (by omega) (by omega)
  by_cases h352 : y < 352
  · exact am_all_range am_ckL_330 (by omega) (by omega)
  have e : y = 352 := by omega
  subst e
  exact am_ckL_352
def am_ckC (y : Nat) : Bool := (am_mt y).1.all (fun e => match e.2.1 with | .invokevirtual _ => decide (e.2.2.2.2.1 < 319) | .invokestatic _ => decide (e.2.2.2.2.1 < 319) | _ => true)
theorem am_ckC_all : (List.range' 0 352).all am_ckC = true := by decide +kernel
