/-! THE CODE IS WHAT THE CLASS FILES HOLD, by program -/
def am_ckD (y : Nat) : Bool := (am_mt y).1.all (fun e => decide (decode (am_b y) e.1 = .ok (e.2.1, e.2.2.1 - e.1)))
theorem am_ckD_0 : (List.range' 0 30).all am_ckD = true := by decide +kernel
theorem am_ckD_30 : (List.range' 30 30).all am_ckD = true := by decide +kernel
theorem am_ckD_60 : (List.range' 60 30).all am_ckD = true := by decide +kernel
theorem am_ckD_90 : (List.range' 90 30).all am_ckD = true := by decide +kernel
theorem am_ckD_120 : (List.range' 120 30).all am_ckD = true := by decide +kernel
theorem am_ckD_150 : (List.range' 150 30).all am_ckD = true := by decide +kernel
theorem am_ckD_180 : (List.range' 180 30).all am_ckD = true := by decide +kernel
theorem am_ckD_210 : (List.range' 210 30).all am_ckD = true := by decide +kernel
theorem am_ckD_240 : (List.range' 240 30).all am_ckD = true := by decide +kernel
theorem am_ckD_270 : (List.range' 270 30).all am_ckD = true := by decide +kernel
theorem am_ckD_300 : (List.range' 300 30).all am_ckD = true := by decide +kernel
theorem am_ckD_330 : (List.range' 330 22).all am_ckD = true := by decide +kernel
