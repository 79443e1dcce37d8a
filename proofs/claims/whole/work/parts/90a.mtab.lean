/-! THE TABLES WORDS BY PLACES; THE METHODS WORDS -/
def am_TG : List Cond := lw_tbl.filter goodWord
/-- the tables' lists, one by one; a place: list * 1000 + place in it -/
def am_tc (c : Nat) : List Cond := [k2_sels lw_privs, tables_1_1, tables_1_2, tables_1_3, tables_1_4, tables_1_5, tables_1_6, tables_1_7, tables_1_8, tables_1_9, tables_1_10].getD c []
def am_lk (i : Nat) : Option Cond := (am_tc (i / 1000))[i % 1000]?
theorem am_tc_sub (c : Nat) : ∀ w ∈ am_tc c, w ∈ lw_tbl := by
  intro w hw
  rcases (show c = 0 ∨ c = 1 ∨ c = 2 ∨ c = 3 ∨ c = 4 ∨ c = 5 ∨ c = 6 ∨ c = 7 ∨ c = 8 ∨ c = 9 ∨ c = 10 ∨ 11 ≤ c by omega) with rfl | rfl | rfl | rfl | rfl | rfl | rfl | rfl | rfl | rfl | rfl | h
  · exact List.mem_append_left _ hw
  all_goals first | (refine List.mem_append_right _ ?_; show w ∈ tables_1; unfold tables_1; simp only [List.mem_append]; (first | exact Or.inl hw | exact Or.inr (Or.inl hw) | exact Or.inr (Or.inr (Or.inl hw)) | exact Or.inr (Or.inr (Or.inr (Or.inl hw))) | exact Or.inr (Or.inr (Or.inr (Or.inr (Or.inl hw)))) | exact Or.inr (Or.inr (Or.inr (Or.inr (Or.inr (Or.inl hw))))) | exact Or.inr (Or.inr (Or.inr (Or.inr (Or.inr (Or.inr (Or.inl hw)))))) | exact Or.inr (Or.inr (Or.inr (Or.inr (Or.inr (Or.inr (Or.inr (Or.inl hw))))))) | exact Or.inr (Or.inr (Or.inr (Or.inr (Or.inr (Or.inr (Or.inr (Or.inr (Or.inl hw)))))))) | exact Or.inr (Or.inr (Or.inr (Or.inr (Or.inr (Or.inr (Or.inr (Or.inr (Or.inr hw)))))))))) | skip
  rw [show am_tc c = [] from by unfold am_tc; rw [List.getD_eq_getElem?_getD, List.getElem?_eq_none (by simpa using h)]; rfl] at hw
  cases hw
theorem am_lk_mem {w : Cond} {i : Nat} (h : am_lk i = some w) : w ∈ lw_tbl := am_tc_sub _ w (List.mem_of_getElem? h)
theorem am_tk {w : Cond} {i : Nat} (h : am_lk i = some w) (hg : goodWord w = true) : w ∈ am_TG := List.mem_filter.mpr ⟨am_lk_mem h, hg⟩
theorem am_tg {w : Cond} {i : Nat} (h : lw_tbl[i]? = some w) (hg : goodWord w = true) : w ∈ am_TG := List.mem_filter.mpr ⟨List.mem_of_getElem? h, hg⟩
def y_len : MethodName := ⟨"java/lang/String", "length", "()I"⟩
def y_chr : MethodName := ⟨"java/lang/String", "charAt", "(I)C"⟩
theorem am_all_range {f : Nat → Bool} {a n : Nat} (h : (List.range' a n).all f = true) {y : Nat} (h1 : a ≤ y) (h2 : y < a + n) : f y = true := List.all_eq_true.mp h y (by rw [List.mem_range'_1]; omega)
theorem am_w_code_0 : (List.range' 0 20).all (fun y => decide (am_lk ((am_in y).2.2.2.1) = some (.code (am_y y) (am_b y) (am_mt y).2.1 (am_rt y)))) = true := by decide +kernel
theorem am_w_code_20 : (List.range' 20 20).all (fun y => decide (am_lk ((am_in y).2.2.2.1) = some (.code (am_y y) (am_b y) (am_mt y).2.1 (am_rt y)))) = true := by decide +kernel
theorem am_w_code_40 : (List.range' 40 20).all (fun y => decide (am_lk ((am_in y).2.2.2.1) = some (.code (am_y y) (am_b y) (am_mt y).2.1 (am_rt y)))) = true := by decide +kernel
theorem am_w_code_60 : (List.range' 60 20).all (fun y => decide (am_lk ((am_in y).2.2.2.1) = some (.code (am_y y) (am_b y) (am_mt y).2.1 (am_rt y)))) = true := by decide +kernel
theorem am_w_code_80 : (List.range' 80 20).all (fun y => decide (am_lk ((am_in y).2.2.2.1) = some (.code (am_y y) (am_b y) (am_mt y).2.1 (am_rt y)))) = true := by decide +kernel
theorem am_w_code_100 : (List.range' 100 20).all (fun y => decide (am_lk ((am_in y).2.2.2.1) = some (.code (am_y y) (am_b y) (am_mt y).2.1 (am_rt y)))) = true := by decide +kernel
theorem am_w_code_120 : (List.range' 120 20).all (fun y => decide (am_lk ((am_in y).2.2.2.1) = some (.code (am_y y) (am_b y) (am_mt y).2.1 (am_rt y)))) = true := by decide +kernel
theorem am_w_code_140 : (List.range' 140 20).all (fun y => decide (am_lk ((am_in y).2.2.2.1) = some (.code (am_y y) (am_b y) (am_mt y).2.1 (am_rt y)))) = true := by decide +kernel
theorem am_w_code_160 : (List.range' 160 20).all (fun y => decide (am_lk ((am_in y).2.2.2.1) = some (.code (am_y y) (am_b y) (am_mt y).2.1 (am_rt y)))) = true := by decide +kernel
theorem am_w_code_180 : (List.range' 180 20).all (fun y => decide (am_lk ((am_in y).2.2.2.1) = some (.code (am_y y) (am_b y) (am_mt y).2.1 (am_rt y)))) = true := by decide +kernel
theorem am_w_code_200 : (List.range' 200 20).all (fun y => decide (am_lk ((am_in y).2.2.2.1) = some (.code (am_y y) (am_b y) (am_mt y).2.1 (am_rt y)))) = true := by decide +kernel
theorem am_w_code_220 : (List.range' 220 20).all (fun y => decide (am_lk ((am_in y).2.2.2.1) = some (.code (am_y y) (am_b y) (am_mt y).2.1 (am_rt y)))) = true := by decide +kernel
theorem am_w_code_240 : (List.range' 240 20).all (fun y => decide (am_lk ((am_in y).2.2.2.1) = some (.code (am_y y) (am_b y) (am_mt y).2.1 (am_rt y)))) = true := by decide +kernel
theorem am_w_code_260 : (List.range' 260 20).all (fun y => decide (am_lk ((am_in y).2.2.2.1) = some (.code (am_y y) (am_b y) (am_mt y).2.1 (am_rt y)))) = true := by decide +kernel
theorem am_w_code_280 : (List.range' 280 20).all (fun y => decide (am_lk ((am_in y).2.2.2.1) = some (.code (am_y y) (am_b y) (am_mt y).2.1 (am_rt y)))) = true := by decide +kernel
theorem am_w_code_300 : (List.range' 300 19).all (fun y => decide (am_lk ((am_in y).2.2.2.1) = some (.code (am_y y) (am_b y) (am_mt y).2.1 (am_rt y)))) = true := by decide +kernel
theorem am_w_code : ∀ y, y < 319 → am_lk ((am_in y).2.2.2.1) = some (.code (am_y y) (am_b y) (am_mt y).2.1 (am_rt y)) := by
  intro y hy
  by_cases h20 : y < 20
  · exact of_decide_eq_true (am_all_range (f := fun y => decide (am_lk ((am_in y).2.2.2.1) = some (.code (am_y y) (am_b y) (am_mt y).2.1 (am_rt y)))) am_w_code_0 (by omega) (by omega))
  by_cases h40 : y < 40
  · exact of_decide_eq_true (am_all_range (f := fun y => decide (am_lk ((am_in y).2.2.2.1) = some (.code (am_y y) (am_b y) (am_mt y).2.1 (am_rt y)))) am_w_code_20 (by omega) (by omega))
  by_cases h60 : y < 60
  · exact of_decide_eq_true (am_all_range (f := fun y => decide (am_lk ((am_in y).2.2.2.1) = some (.code (am_y y) (am_b y) (am_mt y).2.1 (am_rt y)))) am_w_code_40 (by omega) (by omega))
  by_cases h80 : y < 80
  · exact of_decide_eq_true (am_all_range (f := fun y => decide (am_lk ((am_in y).2.2.2.1) = some (.code (am_y y) (am_b y) (am_mt y).2.1 (am_rt y)))) am_w_code_60 (by omega) (by omega))
  by_cases h100 : y < 100
  · exact of_decide_eq_true (am_all_range (f := fun y => decide (am_lk ((am_in y).2.2.2.1) = some (.code (am_y y) (am_b y) (am_mt y).2.1 (am_rt y)))) am_w_code_80 (by omega) (by omega))
  by_cases h120 : y < 120
  · exact of_decide_eq_true (am_all_range (f := fun y => decide (am_lk ((am_in y).2.2.2.1) = some (.code (am_y y) (am_b y) (am_mt y).2.1 (am_rt y)))) am_w_code_100 (by omega) (by omega))
  by_cases h140 : y < 140
  · exact of_decide_eq_true (am_all_range (f := fun y => decide (am_lk ((am_in y).2.2.2.1) = some (.code (am_y y) (am_b y) (am_mt y).2.1 (am_rt y)))) am_w_code_120 (by omega) (by omega))
  by_cases h160 : y < 160
  · exact of_decide_eq_true (am_all_range (f := fun y => decide (am_lk ((am_in y).2.2.2.1) = some (.code (am_y y) (am_b y) (am_mt y).2.1 (am_rt y)))) am_w_code_140 (by omega) (by omega))
  by_cases h180 : y < 180
  · exact of_decide_eq_true (am_all_range (f := fun y => decide (am_lk ((am_in y).2.2.2.1) = some (.code (am_y y) (am_b y) (am_mt y).2.1 (am_rt y)))) am_w_code_160 (by omega) (by omega))
  by_cases h200 : y < 200
  · exact of_decide_eq_true (am_all_range (f := fun y => decide (am_lk ((am_in y).2.2.2.1) = some (.code (am_y y) (am_b y) (am_mt y).2.1 (am_rt y)))) am_w_code_180 (by omega) (by omega))
  by_cases h220 : y < 220
  · exact of_decide_eq_true (am_all_range (f := fun y => decide (am_lk ((am_in y).2.2.2.1) = some (.code (am_y y) (am_b y) (am_mt y).2.1 (am_rt y)))) am_w_code_200 (by omega) (by omega))
  by_cases h240 : y < 240
  · exact of_decide_eq_true (am_all_range (f := fun y => decide (am_lk ((am_in y).2.2.2.1) = some (.code (am_y y) (am_b y) (am_mt y).2.1 (am_rt y)))) am_w_code_220 (by omega) (by omega))
  by_cases h260 : y < 260
  · exact of_decide_eq_true (am_all_range (f := fun y => decide (am_lk ((am_in y).2.2.2.1) = some (.code (am_y y) (am_b y) (am_mt y).2.1 (am_rt y)))) am_w_code_240 (by omega) (by omega))
  by_cases h280 : y < 280
  · exact of_decide_eq_true (am_all_range (f := fun y => decide (am_lk ((am_in y).2.2.2.1) = some (.code (am_y y) (am_b y) (am_mt y).2.1 (am_rt y)))) am_w_code_260 (by omega) (by omega))
  by_cases h300 : y < 300
  · exact of_decide_eq_true (am_all_range (f := fun y => decide (am_lk ((am_in y).2.2.2.1) = some (.code (am_y y) (am_b y) (am_mt y).2.1 (am_rt y)))) am_w_code_280 (by omega) (by omega))
  by_cases h319 : y < 319
  · exact of_decide_eq_true (am_all_range (f := fun y => decide (am_lk ((am_in y).2.2.2.1) = some (.code (am_y y) (am_b y) (am_mt y).2.1 (am_rt y)))) am_w_code_300 (by omega) (by omega))
  omega
theorem am_w_ini : ∀ y, y < 319 → am_lk ((am_in y).2.2.2.2.2.2) = some (.initialized (am_y y).cls) := by decide +kernel
theorem am_w_kind_0 : (List.range' 0 20).all (fun y => decide (am_lk ((am_in y).2.2.2.2.1) = some (if (am_mt y).2.2.1 = 0 then .static (am_y y) else .instanceMethod (am_y y)))) = true := by decide +kernel
theorem am_w_kind_20 : (List.range' 20 20).all (fun y => decide (am_lk ((am_in y).2.2.2.2.1) = some (if (am_mt y).2.2.1 = 0 then .static (am_y y) else .instanceMethod (am_y y)))) = true := by decide +kernel
theorem am_w_kind_40 : (List.range' 40 20).all (fun y => decide (am_lk ((am_in y).2.2.2.2.1) = some (if (am_mt y).2.2.1 = 0 then .static (am_y y) else .instanceMethod (am_y y)))) = true := by decide +kernel
theorem am_w_kind_60 : (List.range' 60 20).all (fun y => decide (am_lk ((am_in y).2.2.2.2.1) = some (if (am_mt y).2.2.1 = 0 then .static (am_y y) else .instanceMethod (am_y y)))) = true := by decide +kernel
theorem am_w_kind_80 : (List.range' 80 20).all (fun y => decide (am_lk ((am_in y).2.2.2.2.1) = some (if (am_mt y).2.2.1 = 0 then .static (am_y y) else .instanceMethod (am_y y)))) = true := by decide +kernel
theorem am_w_kind_100 : (List.range' 100 20).all (fun y => decide (am_lk ((am_in y).2.2.2.2.1) = some (if (am_mt y).2.2.1 = 0 then .static (am_y y) else .instanceMethod (am_y y)))) = true := by decide +kernel
theorem am_w_kind_120 : (List.range' 120 20).all (fun y => decide (am_lk ((am_in y).2.2.2.2.1) = some (if (am_mt y).2.2.1 = 0 then .static (am_y y) else .instanceMethod (am_y y)))) = true := by decide +kernel
theorem am_w_kind_140 : (List.range' 140 20).all (fun y => decide (am_lk ((am_in y).2.2.2.2.1) = some (if (am_mt y).2.2.1 = 0 then .static (am_y y) else .instanceMethod (am_y y)))) = true := by decide +kernel
theorem am_w_kind_160 : (List.range' 160 20).all (fun y => decide (am_lk ((am_in y).2.2.2.2.1) = some (if (am_mt y).2.2.1 = 0 then .static (am_y y) else .instanceMethod (am_y y)))) = true := by decide +kernel
theorem am_w_kind_180 : (List.range' 180 20).all (fun y => decide (am_lk ((am_in y).2.2.2.2.1) = some (if (am_mt y).2.2.1 = 0 then .static (am_y y) else .instanceMethod (am_y y)))) = true := by decide +kernel
theorem am_w_kind_200 : (List.range' 200 20).all (fun y => decide (am_lk ((am_in y).2.2.2.2.1) = some (if (am_mt y).2.2.1 = 0 then .static (am_y y) else .instanceMethod (am_y y)))) = true := by decide +kernel
theorem am_w_kind_220 : (List.range' 220 20).all (fun y => decide (am_lk ((am_in y).2.2.2.2.1) = some (if (am_mt y).2.2.1 = 0 then .static (am_y y) else .instanceMethod (am_y y)))) = true := by decide +kernel
theorem am_w_kind_240 : (List.range' 240 20).all (fun y => decide (am_lk ((am_in y).2.2.2.2.1) = some (if (am_mt y).2.2.1 = 0 then .static (am_y y) else .instanceMethod (am_y y)))) = true := by decide +kernel
theorem am_w_kind_260 : (List.range' 260 20).all (fun y => decide (am_lk ((am_in y).2.2.2.2.1) = some (if (am_mt y).2.2.1 = 0 then .static (am_y y) else .instanceMethod (am_y y)))) = true := by decide +kernel
theorem am_w_kind_280 : (List.range' 280 20).all (fun y => decide (am_lk ((am_in y).2.2.2.2.1) = some (if (am_mt y).2.2.1 = 0 then .static (am_y y) else .instanceMethod (am_y y)))) = true := by decide +kernel
theorem am_w_kind_300 : (List.range' 300 19).all (fun y => decide (am_lk ((am_in y).2.2.2.2.1) = some (if (am_mt y).2.2.1 = 0 then .static (am_y y) else .instanceMethod (am_y y)))) = true := by decide +kernel
theorem am_w_kind : ∀ y, y < 319 → am_lk ((am_in y).2.2.2.2.1) = some (if (am_mt y).2.2.1 = 0 then .static (am_y y) else .instanceMethod (am_y y)) := by
  intro y hy
  by_cases h20 : y < 20
  · exact of_decide_eq_true (am_all_range (f := fun y => decide (am_lk ((am_in y).2.2.2.2.1) = some (if (am_mt y).2.2.1 = 0 then .static (am_y y) else .instanceMethod (am_y y)))) am_w_kind_0 (by omega) (by omega))
  by_cases h40 : y < 40
  · exact of_decide_eq_true (am_all_range (f := fun y => decide (am_lk ((am_in y).2.2.2.2.1) = some (if (am_mt y).2.2.1 = 0 then .static (am_y y) else .instanceMethod (am_y y)))) am_w_kind_20 (by omega) (by omega))
  by_cases h60 : y < 60
  · exact of_decide_eq_true (am_all_range (f := fun y => decide (am_lk ((am_in y).2.2.2.2.1) = some (if (am_mt y).2.2.1 = 0 then .static (am_y y) else .instanceMethod (am_y y)))) am_w_kind_40 (by omega) (by omega))
  by_cases h80 : y < 80
  · exact of_decide_eq_true (am_all_range (f := fun y => decide (am_lk ((am_in y).2.2.2.2.1) = some (if (am_mt y).2.2.1 = 0 then .static (am_y y) else .instanceMethod (am_y y)))) am_w_kind_60 (by omega) (by omega))
  by_cases h100 : y < 100
  · exact of_decide_eq_true (am_all_range (f := fun y => decide (am_lk ((am_in y).2.2.2.2.1) = some (if (am_mt y).2.2.1 = 0 then .static (am_y y) else .instanceMethod (am_y y)))) am_w_kind_80 (by omega) (by omega))
  by_cases h120 : y < 120
  · exact of_decide_eq_true (am_all_range (f := fun y => decide (am_lk ((am_in y).2.2.2.2.1) = some (if (am_mt y).2.2.1 = 0 then .static (am_y y) else .instanceMethod (am_y y)))) am_w_kind_100 (by omega) (by omega))
  by_cases h140 : y < 140
  · exact of_decide_eq_true (am_all_range (f := fun y => decide (am_lk ((am_in y).2.2.2.2.1) = some (if (am_mt y).2.2.1 = 0 then .static (am_y y) else .instanceMethod (am_y y)))) am_w_kind_120 (by omega) (by omega))
  by_cases h160 : y < 160
  · exact of_decide_eq_true (am_all_range (f := fun y => decide (am_lk ((am_in y).2.2.2.2.1) = some (if (am_mt y).2.2.1 = 0 then .static (am_y y) else .instanceMethod (am_y y)))) am_w_kind_140 (by omega) (by omega))
  by_cases h180 : y < 180
  · exact of_decide_eq_true (am_all_range (f := fun y => decide (am_lk ((am_in y).2.2.2.2.1) = some (if (am_mt y).2.2.1 = 0 then .static (am_y y) else .instanceMethod (am_y y)))) am_w_kind_160 (by omega) (by omega))
  by_cases h200 : y < 200
  · exact of_decide_eq_true (am_all_range (f := fun y => decide (am_lk ((am_in y).2.2.2.2.1) = some (if (am_mt y).2.2.1 = 0 then .static (am_y y) else .instanceMethod (am_y y)))) am_w_kind_180 (by omega) (by omega))
  by_cases h220 : y < 220
  · exact of_decide_eq_true (am_all_range (f := fun y => decide (am_lk ((am_in y).2.2.2.2.1) = some (if (am_mt y).2.2.1 = 0 then .static (am_y y) else .instanceMethod (am_y y)))) am_w_kind_200 (by omega) (by omega))
  by_cases h240 : y < 240
  · exact of_decide_eq_true (am_all_range (f := fun y => decide (am_lk ((am_in y).2.2.2.2.1) = some (if (am_mt y).2.2.1 = 0 then .static (am_y y) else .instanceMethod (am_y y)))) am_w_kind_220 (by omega) (by omega))
  by_cases h260 : y < 260
  · exact of_decide_eq_true (am_all_range (f := fun y => decide (am_lk ((am_in y).2.2.2.2.1) = some (if (am_mt y).2.2.1 = 0 then .static (am_y y) else .instanceMethod (am_y y)))) am_w_kind_240 (by omega) (by omega))
  by_cases h280 : y < 280
  · exact of_decide_eq_true (am_all_range (f := fun y => decide (am_lk ((am_in y).2.2.2.2.1) = some (if (am_mt y).2.2.1 = 0 then .static (am_y y) else .instanceMethod (am_y y)))) am_w_kind_260 (by omega) (by omega))
  by_cases h300 : y < 300
  · exact of_decide_eq_true (am_all_range (f := fun y => decide (am_lk ((am_in y).2.2.2.2.1) = some (if (am_mt y).2.2.1 = 0 then .static (am_y y) else .instanceMethod (am_y y)))) am_w_kind_280 (by omega) (by omega))
  by_cases h319 : y < 319
  · exact of_decide_eq_true (am_all_range (f := fun y => decide (am_lk ((am_in y).2.2.2.2.1) = some (if (am_mt y).2.2.1 = 0 then .static (am_y y) else .instanceMethod (am_y y)))) am_w_kind_300 (by omega) (by omega))
  omega
theorem am_w_sel_0 : (List.range' 0 20).all (fun y => decide ((am_mt y).2.2.1 ≠ 0 → am_lk ((am_in y).2.2.2.2.2.1) = some (.selects (am_y y).cls (am_y y) (am_y y)))) = true := by decide +kernel
theorem am_w_sel_20 : (List.range' 20 20).all (fun y => decide ((am_mt y).2.2.1 ≠ 0 → am_lk ((am_in y).2.2.2.2.2.1) = some (.selects (am_y y).cls (am_y y) (am_y y)))) = true := by decide +kernel
theorem am_w_sel_40 : (List.range' 40 20).all (fun y => decide ((am_mt y).2.2.1 ≠ 0 → am_lk ((am_in y).2.2.2.2.2.1) = some (.selects (am_y y).cls (am_y y) (am_y y)))) = true := by decide +kernel
theorem am_w_sel_60 : (List.range' 60 20).all (fun y => decide ((am_mt y).2.2.1 ≠ 0 → am_lk ((am_in y).2.2.2.2.2.1) = some (.selects (am_y y).cls (am_y y) (am_y y)))) = true := by decide +kernel
theorem am_w_sel_80 : (List.range' 80 20).all (fun y => decide ((am_mt y).2.2.1 ≠ 0 → am_lk ((am_in y).2.2.2.2.2.1) = some (.selects (am_y y).cls (am_y y) (am_y y)))) = true := by decide +kernel
theorem am_w_sel_100 : (List.range' 100 20).all (fun y => decide ((am_mt y).2.2.1 ≠ 0 → am_lk ((am_in y).2.2.2.2.2.1) = some (.selects (am_y y).cls (am_y y) (am_y y)))) = true := by decide +kernel
theorem am_w_sel_120 : (List.range' 120 20).all (fun y => decide ((am_mt y).2.2.1 ≠ 0 → am_lk ((am_in y).2.2.2.2.2.1) = some (.selects (am_y y).cls (am_y y) (am_y y)))) = true := by decide +kernel
theorem am_w_sel_140 : (List.range' 140 20).all (fun y => decide ((am_mt y).2.2.1 ≠ 0 → am_lk ((am_in y).2.2.2.2.2.1) = some (.selects (am_y y).cls (am_y y) (am_y y)))) = true := by decide +kernel
theorem am_w_sel_160 : (List.range' 160 20).all (fun y => decide ((am_mt y).2.2.1 ≠ 0 → am_lk ((am_in y).2.2.2.2.2.1) = some (.selects (am_y y).cls (am_y y) (am_y y)))) = true := by decide +kernel
theorem am_w_sel_180 : (List.range' 180 20).all (fun y => decide ((am_mt y).2.2.1 ≠ 0 → am_lk ((am_in y).2.2.2.2.2.1) = some (.selects (am_y y).cls (am_y y) (am_y y)))) = true := by decide +kernel
theorem am_w_sel_200 : (List.range' 200 20).all (fun y => decide ((am_mt y).2.2.1 ≠ 0 → am_lk ((am_in y).2.2.2.2.2.1) = some (.selects (am_y y).cls (am_y y) (am_y y)))) = true := by decide +kernel
theorem am_w_sel_220 : (List.range' 220 20).all (fun y => decide ((am_mt y).2.2.1 ≠ 0 → am_lk ((am_in y).2.2.2.2.2.1) = some (.selects (am_y y).cls (am_y y) (am_y y)))) = true := by decide +kernel
theorem am_w_sel_240 : (List.range' 240 20).all (fun y => decide ((am_mt y).2.2.1 ≠ 0 → am_lk ((am_in y).2.2.2.2.2.1) = some (.selects (am_y y).cls (am_y y) (am_y y)))) = true := by decide +kernel
theorem am_w_sel_260 : (List.range' 260 20).all (fun y => decide ((am_mt y).2.2.1 ≠ 0 → am_lk ((am_in y).2.2.2.2.2.1) = some (.selects (am_y y).cls (am_y y) (am_y y)))) = true := by decide +kernel
theorem am_w_sel_280 : (List.range' 280 20).all (fun y => decide ((am_mt y).2.2.1 ≠ 0 → am_lk ((am_in y).2.2.2.2.2.1) = some (.selects (am_y y).cls (am_y y) (am_y y)))) = true := by decide +kernel
theorem am_w_sel_300 : (List.range' 300 19).all (fun y => decide ((am_mt y).2.2.1 ≠ 0 → am_lk ((am_in y).2.2.2.2.2.1) = some (.selects (am_y y).cls (am_y y) (am_y y)))) = true := by decide +kernel
theorem am_w_sel : ∀ y, y < 319 → (am_mt y).2.2.1 ≠ 0 → am_lk ((am_in y).2.2.2.2.2.1) = some (.selects (am_y y).cls (am_y y) (am_y y)) := by
  intro y hy
  by_cases h20 : y < 20
  · exact of_decide_eq_true (am_all_range (f := fun y => decide ((am_mt y).2.2.1 ≠ 0 → am_lk ((am_in y).2.2.2.2.2.1) = some (.selects (am_y y).cls (am_y y) (am_y y)))) am_w_sel_0 (by omega) (by omega))
  by_cases h40 : y < 40
  · exact of_decide_eq_true (am_all_range (f := fun y => decide ((am_mt y).2.2.1 ≠ 0 → am_lk ((am_in y).2.2.2.2.2.1) = some (.selects (am_y y).cls (am_y y) (am_y y)))) am_w_sel_20 (by omega) (by omega))
  by_cases h60 : y < 60
  · exact of_decide_eq_true (am_all_range (f := fun y => decide ((am_mt y).2.2.1 ≠ 0 → am_lk ((am_in y).2.2.2.2.2.1) = some (.selects (am_y y).cls (am_y y) (am_y y)))) am_w_sel_40 (by omega) (by omega))
  by_cases h80 : y < 80
  · exact of_decide_eq_true (am_all_range (f := fun y => decide ((am_mt y).2.2.1 ≠ 0 → am_lk ((am_in y).2.2.2.2.2.1) = some (.selects (am_y y).cls (am_y y) (am_y y)))) am_w_sel_60 (by omega) (by omega))
  by_cases h100 : y < 100
  · exact of_decide_eq_true (am_all_range (f := fun y => decide ((am_mt y).2.2.1 ≠ 0 → am_lk ((am_in y).2.2.2.2.2.1) = some (.selects (am_y y).cls (am_y y) (am_y y)))) am_w_sel_80 (by omega) (by omega))
  by_cases h120 : y < 120
  · exact of_decide_eq_true (am_all_range (f := fun y => decide ((am_mt y).2.2.1 ≠ 0 → am_lk ((am_in y).2.2.2.2.2.1) = some (.selects (am_y y).cls (am_y y) (am_y y)))) am_w_sel_100 (by omega) (by omega))
  by_cases h140 : y < 140
  · exact of_decide_eq_true (am_all_range (f := fun y => decide ((am_mt y).2.2.1 ≠ 0 → am_lk ((am_in y).2.2.2.2.2.1) = some (.selects (am_y y).cls (am_y y) (am_y y)))) am_w_sel_120 (by omega) (by omega))
  by_cases h160 : y < 160
  · exact of_decide_eq_true (am_all_range (f := fun y => decide ((am_mt y).2.2.1 ≠ 0 → am_lk ((am_in y).2.2.2.2.2.1) = some (.selects (am_y y).cls (am_y y) (am_y y)))) am_w_sel_140 (by omega) (by omega))
  by_cases h180 : y < 180
  · exact of_decide_eq_true (am_all_range (f := fun y => decide ((am_mt y).2.2.1 ≠ 0 → am_lk ((am_in y).2.2.2.2.2.1) = some (.selects (am_y y).cls (am_y y) (am_y y)))) am_w_sel_160 (by omega) (by omega))
  by_cases h200 : y < 200
  · exact of_decide_eq_true (am_all_range (f := fun y => decide ((am_mt y).2.2.1 ≠ 0 → am_lk ((am_in y).2.2.2.2.2.1) = some (.selects (am_y y).cls (am_y y) (am_y y)))) am_w_sel_180 (by omega) (by omega))
  by_cases h220 : y < 220
  · exact of_decide_eq_true (am_all_range (f := fun y => decide ((am_mt y).2.2.1 ≠ 0 → am_lk ((am_in y).2.2.2.2.2.1) = some (.selects (am_y y).cls (am_y y) (am_y y)))) am_w_sel_200 (by omega) (by omega))
  by_cases h240 : y < 240
  · exact of_decide_eq_true (am_all_range (f := fun y => decide ((am_mt y).2.2.1 ≠ 0 → am_lk ((am_in y).2.2.2.2.2.1) = some (.selects (am_y y).cls (am_y y) (am_y y)))) am_w_sel_220 (by omega) (by omega))
  by_cases h260 : y < 260
  · exact of_decide_eq_true (am_all_range (f := fun y => decide ((am_mt y).2.2.1 ≠ 0 → am_lk ((am_in y).2.2.2.2.2.1) = some (.selects (am_y y).cls (am_y y) (am_y y)))) am_w_sel_240 (by omega) (by omega))
  by_cases h280 : y < 280
  · exact of_decide_eq_true (am_all_range (f := fun y => decide ((am_mt y).2.2.1 ≠ 0 → am_lk ((am_in y).2.2.2.2.2.1) = some (.selects (am_y y).cls (am_y y) (am_y y)))) am_w_sel_260 (by omega) (by omega))
  by_cases h300 : y < 300
  · exact of_decide_eq_true (am_all_range (f := fun y => decide ((am_mt y).2.2.1 ≠ 0 → am_lk ((am_in y).2.2.2.2.2.1) = some (.selects (am_y y).cls (am_y y) (am_y y)))) am_w_sel_280 (by omega) (by omega))
  by_cases h319 : y < 319
  · exact of_decide_eq_true (am_all_range (f := fun y => decide ((am_mt y).2.2.1 ≠ 0 → am_lk ((am_in y).2.2.2.2.2.1) = some (.selects (am_y y).cls (am_y y) (am_y y)))) am_w_sel_300 (by omega) (by omega))
  omega
theorem am_w_desc_0 : (List.range' 0 20).all (fun y => decide ((am_y y).cls ≠ "java/lang/invoke/MethodHandle" ∧ (am_y y).cls ≠ "java/lang/invoke/VarHandle" ∧ (_root_.Jvm.plainName (am_y y).cls || plainFor (am_y y)) = true ∧ (am_y y).cls = am_cn (am_in y).2.1 ∧ (am_mt y).2.2.2 = [] ∧ (am_mt y).2.1 ≤ 30 ∧ (parseMethodDescriptor (am_y y).desc).map (fun d => d.parameters.length) = some ((am_in y).1 - (if (am_mt y).2.2.1 = 0 then 0 else 1)) ∧ ((am_mt y).2.2.1 = 0 ∨ (am_mt y).2.2.1 = (am_in y).2.1 + 1) ∧ (am_in y).1 ≤ (am_mt y).2.1)) = true := by decide +kernel
theorem am_w_desc_20 : (List.range' 20 20).all (fun y => decide ((am_y y).cls ≠ "java/lang/invoke/MethodHandle" ∧ (am_y y).cls ≠ "java/lang/invoke/VarHandle" ∧ (_root_.Jvm.plainName (am_y y).cls || plainFor (am_y y)) = true ∧ (am_y y).cls = am_cn (am_in y).2.1 ∧ (am_mt y).2.2.2 = [] ∧ (am_mt y).2.1 ≤ 30 ∧ (parseMethodDescriptor (am_y y).desc).map (fun d => d.parameters.length) = some ((am_in y).1 - (if (am_mt y).2.2.1 = 0 then 0 else 1)) ∧ ((am_mt y).2.2.1 = 0 ∨ (am_mt y).2.2.1 = (am_in y).2.1 + 1) ∧ (am_in y).1 ≤ (am_mt y).2.1)) = true := by decide +kernel
theorem am_w_desc_40 : (List.range' 40 20).all (fun y => decide ((am_y y).cls ≠ "java/lang/invoke/MethodHandle" ∧ (am_y y).cls ≠ "java/lang/invoke/VarHandle" ∧ (_root_.Jvm.plainName (am_y y).cls || plainFor (am_y y)) = true ∧ (am_y y).cls = am_cn (am_in y).2.1 ∧ (am_mt y).2.2.2 = [] ∧ (am_mt y).2.1 ≤ 30 ∧ (parseMethodDescriptor (am_y y).desc).map (fun d => d.parameters.length) = some ((am_in y).1 - (if (am_mt y).2.2.1 = 0 then 0 else 1)) ∧ ((am_mt y).2.2.1 = 0 ∨ (am_mt y).2.2.1 = (am_in y).2.1 + 1) ∧ (am_in y).1 ≤ (am_mt y).2.1)) = true := by decide +kernel
theorem am_w_desc_60 : (List.range' 60 20).all (fun y => decide ((am_y y).cls ≠ "java/lang/invoke/MethodHandle" ∧ (am_y y).cls ≠ "java/lang/invoke/VarHandle" ∧ (_root_.Jvm.plainName (am_y y).cls || plainFor (am_y y)) = true ∧ (am_y y).cls = am_cn (am_in y).2.1 ∧ (am_mt y).2.2.2 = [] ∧ (am_mt y).2.1 ≤ 30 ∧ (parseMethodDescriptor (am_y y).desc).map (fun d => d.parameters.length) = some ((am_in y).1 - (if (am_mt y).2.2.1 = 0 then 0 else 1)) ∧ ((am_mt y).2.2.1 = 0 ∨ (am_mt y).2.2.1 = (am_in y).2.1 + 1) ∧ (am_in y).1 ≤ (am_mt y).2.1)) = true := by decide +kernel
theorem am_w_desc_80 : (List.range' 80 20).all (fun y => decide ((am_y y).cls ≠ "java/lang/invoke/MethodHandle" ∧ (am_y y).cls ≠ "java/lang/invoke/VarHandle" ∧ (_root_.Jvm.plainName (am_y y).cls || plainFor (am_y y)) = true ∧ (am_y y).cls = am_cn (am_in y).2.1 ∧ (am_mt y).2.2.2 = [] ∧ (am_mt y).2.1 ≤ 30 ∧ (parseMethodDescriptor (am_y y).desc).map (fun d => d.parameters.length) = some ((am_in y).1 - (if (am_mt y).2.2.1 = 0 then 0 else 1)) ∧ ((am_mt y).2.2.1 = 0 ∨ (am_mt y).2.2.1 = (am_in y).2.1 + 1) ∧ (am_in y).1 ≤ (am_mt y).2.1)) = true := by decide +kernel
theorem am_w_desc_100 : (List.range' 100 20).all (fun y => decide ((am_y y).cls ≠ "java/lang/invoke/MethodHandle" ∧ (am_y y).cls ≠ "java/lang/invoke/VarHandle" ∧ (_root_.Jvm.plainName (am_y y).cls || plainFor (am_y y)) = true ∧ (am_y y).cls = am_cn (am_in y).2.1 ∧ (am_mt y).2.2.2 = [] ∧ (am_mt y).2.1 ≤ 30 ∧ (parseMethodDescriptor (am_y y).desc).map (fun d => d.parameters.length) = some ((am_in y).1 - (if (am_mt y).2.2.1 = 0 then 0 else 1)) ∧ ((am_mt y).2.2.1 = 0 ∨ (am_mt y).2.2.1 = (am_in y).2.1 + 1) ∧ (am_in y).1 ≤ (am_mt y).2.1)) = true := by decide +kernel
theorem am_w_desc_120 : (List.range' 120 20).all (fun y => decide ((am_y y).cls ≠ "java/lang/invoke/MethodHandle" ∧ (am_y y).cls ≠ "java/lang/invoke/VarHandle" ∧ (_root_.Jvm.plainName (am_y y).cls || plainFor (am_y y)) = true ∧ (am_y y).cls = am_cn (am_in y).2.1 ∧ (am_mt y).2.2.2 = [] ∧ (am_mt y).2.1 ≤ 30 ∧ (parseMethodDescriptor (am_y y).desc).map (fun d => d.parameters.length) = some ((am_in y).1 - (if (am_mt y).2.2.1 = 0 then 0 else 1)) ∧ ((am_mt y).2.2.1 = 0 ∨ (am_mt y).2.2.1 = (am_in y).2.1 + 1) ∧ (am_in y).1 ≤ (am_mt y).2.1)) = true := by decide +kernel
theorem am_w_desc_140 : (List.range' 140 20).all (fun y => decide ((am_y y).cls ≠ "java/lang/invoke/MethodHandle" ∧ (am_y y).cls ≠ "java/lang/invoke/VarHandle" ∧ (_root_.Jvm.plainName (am_y y).cls || plainFor (am_y y)) = true ∧ (am_y y).cls = am_cn (am_in y).2.1 ∧ (am_mt y).2.2.2 = [] ∧ (am_mt y).2.1 ≤ 30 ∧ (parseMethodDescriptor (am_y y).desc).map (fun d => d.parameters.length) = some ((am_in y).1 - (if (am_mt y).2.2.1 = 0 then 0 else 1)) ∧ ((am_mt y).2.2.1 = 0 ∨ (am_mt y).2.2.1 = (am_in y).2.1 + 1) ∧ (am_in y).1 ≤ (am_mt y).2.1)) = true := by decide +kernel
theorem am_w_desc_160 : (List.range' 160 20).all (fun y => decide ((am_y y).cls ≠ "java/lang/invoke/MethodHandle" ∧ (am_y y).cls ≠ "java/lang/invoke/VarHandle" ∧ (_root_.Jvm.plainName (am_y y).cls || plainFor (am_y y)) = true ∧ (am_y y).cls = am_cn (am_in y).2.1 ∧ (am_mt y).2.2.2 = [] ∧ (am_mt y).2.1 ≤ 30 ∧ (parseMethodDescriptor (am_y y).desc).map (fun d => d.parameters.length) = some ((am_in y).1 - (if (am_mt y).2.2.1 = 0 then 0 else 1)) ∧ ((am_mt y).2.2.1 = 0 ∨ (am_mt y).2.2.1 = (am_in y).2.1 + 1) ∧ (am_in y).1 ≤ (am_mt y).2.1)) = true := by decide +kernel
theorem am_w_desc_180 : (List.range' 180 20).all (fun y => decide ((am_y y).cls ≠ "java/lang/invoke/MethodHandle" ∧ (am_y y).cls ≠ "java/lang/invoke/VarHandle" ∧ (_root_.Jvm.plainName (am_y y).cls || plainFor (am_y y)) = true ∧ (am_y y).cls = am_cn (am_in y).2.1 ∧ (am_mt y).2.2.2 = [] ∧ (am_mt y).2.1 ≤ 30 ∧ (parseMethodDescriptor (am_y y).desc).map (fun d => d.parameters.length) = some ((am_in y).1 - (if (am_mt y).2.2.1 = 0 then 0 else 1)) ∧ ((am_mt y).2.2.1 = 0 ∨ (am_mt y).2.2.1 = (am_in y).2.1 + 1) ∧ (am_in y).1 ≤ (am_mt y).2.1)) = true := by decide +kernel
theorem am_w_desc_200 : (List.range' 200 20).all (fun y => decide ((am_y y).cls ≠ "java/lang/invoke/MethodHandle" ∧ (am_y y).cls ≠ "java/lang/invoke/VarHandle" ∧ (_root_.Jvm.plainName (am_y y).cls || plainFor (am_y y)) = true ∧ (am_y y).cls = am_cn (am_in y).2.1 ∧ (am_mt y).2.2.2 = [] ∧ (am_mt y).2.1 ≤ 30 ∧ (parseMethodDescriptor (am_y y).desc).map (fun d => d.parameters.length) = some ((am_in y).1 - (if (am_mt y).2.2.1 = 0 then 0 else 1)) ∧ ((am_mt y).2.2.1 = 0 ∨ (am_mt y).2.2.1 = (am_in y).2.1 + 1) ∧ (am_in y).1 ≤ (am_mt y).2.1)) = true := by decide +kernel
theorem am_w_desc_220 : (List.range' 220 20).all (fun y => decide ((am_y y).cls ≠ "java/lang/invoke/MethodHandle" ∧ (am_y y).cls ≠ "java/lang/invoke/VarHandle" ∧ (_root_.Jvm.plainName (am_y y).cls || plainFor (am_y y)) = true ∧ (am_y y).cls = am_cn (am_in y).2.1 ∧ (am_mt y).2.2.2 = [] ∧ (am_mt y).2.1 ≤ 30 ∧ (parseMethodDescriptor (am_y y).desc).map (fun d => d.parameters.length) = some ((am_in y).1 - (if (am_mt y).2.2.1 = 0 then 0 else 1)) ∧ ((am_mt y).2.2.1 = 0 ∨ (am_mt y).2.2.1 = (am_in y).2.1 + 1) ∧ (am_in y).1 ≤ (am_mt y).2.1)) = true := by decide +kernel
theorem am_w_desc_240 : (List.range' 240 20).all (fun y => decide ((am_y y).cls ≠ "java/lang/invoke/MethodHandle" ∧ (am_y y).cls ≠ "java/lang/invoke/VarHandle" ∧ (_root_.Jvm.plainName (am_y y).cls || plainFor (am_y y)) = true ∧ (am_y y).cls = am_cn (am_in y).2.1 ∧ (am_mt y).2.2.2 = [] ∧ (am_mt y).2.1 ≤ 30 ∧ (parseMethodDescriptor (am_y y).desc).map (fun d => d.parameters.length) = some ((am_in y).1 - (if (am_mt y).2.2.1 = 0 then 0 else 1)) ∧ ((am_mt y).2.2.1 = 0 ∨ (am_mt y).2.2.1 = (am_in y).2.1 + 1) ∧ (am_in y).1 ≤ (am_mt y).2.1)) = true := by decide +kernel
theorem am_w_desc_260 : (List.range' 260 20).all (fun y => decide ((am_y y).cls ≠ "java/lang/invoke/MethodHandle" ∧ (am_y y).cls ≠ "java/lang/invoke/VarHandle" ∧ (_root_.Jvm.plainName (am_y y).cls || plainFor (am_y y)) = true ∧ (am_y y).cls = am_cn (am_in y).2.1 ∧ (am_mt y).2.2.2 = [] ∧ (am_mt y).2.1 ≤ 30 ∧ (parseMethodDescriptor (am_y y).desc).map (fun d => d.parameters.length) = some ((am_in y).1 - (if (am_mt y).2.2.1 = 0 then 0 else 1)) ∧ ((am_mt y).2.2.1 = 0 ∨ (am_mt y).2.2.1 = (am_in y).2.1 + 1) ∧ (am_in y).1 ≤ (am_mt y).2.1)) = true := by decide +kernel
theorem am_w_desc_280 : (List.range' 280 20).all (fun y => decide ((am_y y).cls ≠ "java/lang/invoke/MethodHandle" ∧ (am_y y).cls ≠ "java/lang/invoke/VarHandle" ∧ (_root_.Jvm.plainName (am_y y).cls || plainFor (am_y y)) = true ∧ (am_y y).cls = am_cn (am_in y).2.1 ∧ (am_mt y).2.2.2 = [] ∧ (am_mt y).2.1 ≤ 30 ∧ (parseMethodDescriptor (am_y y).desc).map (fun d => d.parameters.length) = some ((am_in y).1 - (if (am_mt y).2.2.1 = 0 then 0 else 1)) ∧ ((am_mt y).2.2.1 = 0 ∨ (am_mt y).2.2.1 = (am_in y).2.1 + 1) ∧ (am_in y).1 ≤ (am_mt y).2.1)) = true := by decide +kernel
theorem am_w_desc_300 : (List.range' 300 19).all (fun y => decide ((am_y y).cls ≠ "java/lang/invoke/MethodHandle" ∧ (am_y y).cls ≠ "java/lang/invoke/VarHandle" ∧ (_root_.Jvm.plainName (am_y y).cls || plainFor (am_y y)) = true ∧ (am_y y).cls = am_cn (am_in y).2.1 ∧ (am_mt y).2.2.2 = [] ∧ (am_mt y).2.1 ≤ 30 ∧ (parseMethodDescriptor (am_y y).desc).map (fun d => d.parameters.length) = some ((am_in y).1 - (if (am_mt y).2.2.1 = 0 then 0 else 1)) ∧ ((am_mt y).2.2.1 = 0 ∨ (am_mt y).2.2.1 = (am_in y).2.1 + 1) ∧ (am_in y).1 ≤ (am_mt y).2.1)) = true := by decide +kernel
theorem am_w_desc : ∀ y, y < 319 → (am_y y).cls ≠ "java/lang/invoke/MethodHandle" ∧ (am_y y).cls ≠ "java/lang/invoke/VarHandle" ∧ (_root_.Jvm.plainName (am_y y).cls || plainFor (am_y y)) = true ∧ (am_y y).cls = am_cn (am_in y).2.1 ∧ (am_mt y).2.2.2 = [] ∧ (am_mt y).2.1 ≤ 30 ∧ (parseMethodDescriptor (am_y y).desc).map (fun d => d.parameters.length) = some ((am_in y).1 - (if (am_mt y).2.2.1 = 0 then 0 else 1)) ∧ ((am_mt y).2.2.1 = 0 ∨ (am_mt y).2.2.1 = (am_in y).2.1 + 1) ∧ (am_in y).1 ≤ (am_mt y).2.1 := by
  intro y hy
  by_cases h20 : y < 20
  · exact of_decide_eq_true (am_all_range (f := fun y => decide ((am_y y).cls ≠ "java/lang/invoke/MethodHandle" ∧ (am_y y).cls ≠ "java/lang/invoke/VarHandle" ∧ (_root_.Jvm.plainName (am_y y).cls || plainFor (am_y y)) = true ∧ (am_y y).cls = am_cn (am_in y).2.1 ∧ (am_mt y).2.2.2 = [] ∧ (am_mt y).2.1 ≤ 30 ∧ (parseMethodDescriptor (am_y y).desc).map (fun d => d.parameters.length) = some ((am_in y).1 - (if (am_mt y).2.2.1 = 0 then 0 else 1)) ∧ ((am_mt y).2.2.1 = 0 ∨ (am_mt y).2.2.1 = (am_in y).2.1 + 1) ∧ (am_in y).1 ≤ (am_mt y).2.1)) am_w_desc_0 (by omega) (by omega))
  by_cases h40 : y < 40
  · exact of_decide_eq_true (am_all_range (f := fun y => decide ((am_y y).cls ≠ "java/lang/invoke/MethodHandle" ∧ (am_y y).cls ≠ "java/lang/invoke/VarHandle" ∧ (_root_.Jvm.plainName (am_y y).cls || plainFor (am_y y)) = true ∧ (am_y y).cls = am_cn (am_in y).2.1 ∧ (am_mt y).2.2.2 = [] ∧ (am_mt y).2.1 ≤ 30 ∧ (parseMethodDescriptor (am_y y).desc).map (fun d => d.parameters.length) = some ((am_in y).1 - (if (am_mt y).2.2.1 = 0 then 0 else 1)) ∧ ((am_mt y).2.2.1 = 0 ∨ (am_mt y).2.2.1 = (am_in y).2.1 + 1) ∧ (am_in y).1 ≤ (am_mt y).2.1)) am_w_desc_20 (by omega) (by omega))
  by_cases h60 : y < 60
  · exact of_decide_eq_true (am_all_range (f := fun y => decide ((am_y y).cls ≠ "java/lang/invoke/MethodHandle" ∧ (am_y y).cls ≠ "java/lang/invoke/VarHandle" ∧ (_root_.Jvm.plainName (am_y y).cls || plainFor (am_y y)) = true ∧ (am_y y).cls = am_cn (am_in y).2.1 ∧ (am_mt y).2.2.2 = [] ∧ (am_mt y).2.1 ≤ 30 ∧ (parseMethodDescriptor (am_y y).desc).map (fun d => d.parameters.length) = some ((am_in y).1 - (if (am_mt y).2.2.1 = 0 then 0 else 1)) ∧ ((am_mt y).2.2.1 = 0 ∨ (am_mt y).2.2.1 = (am_in y).2.1 + 1) ∧ (am_in y).1 ≤ (am_mt y).2.1)) am_w_desc_40 (by omega) (by omega))
  by_cases h80 : y < 80
  · exact of_decide_eq_true (am_all_range (f := fun y => decide ((am_y y).cls ≠ "java/lang/invoke/MethodHandle" ∧ (am_y y).cls ≠ "java/lang/invoke/VarHandle" ∧ (_root_.Jvm.plainName (am_y y).cls || plainFor (am_y y)) = true ∧ (am_y y).cls = am_cn (am_in y).2.1 ∧ (am_mt y).2.2.2 = [] ∧ (am_mt y).2.1 ≤ 30 ∧ (parseMethodDescriptor (am_y y).desc).map (fun d => d.parameters.length) = some ((am_in y).1 - (if (am_mt y).2.2.1 = 0 then 0 else 1)) ∧ ((am_mt y).2.2.1 = 0 ∨ (am_mt y).2.2.1 = (am_in y).2.1 + 1) ∧ (am_in y).1 ≤ (am_mt y).2.1)) am_w_desc_60 (by omega) (by omega))
  by_cases h100 : y < 100
  · exact of_decide_eq_true (am_all_range (f := fun y => decide ((am_y y).cls ≠ "java/lang/invoke/MethodHandle" ∧ (am_y y).cls ≠ "java/lang/invoke/VarHandle" ∧ (_root_.Jvm.plainName (am_y y).cls || plainFor (am_y y)) = true ∧ (am_y y).cls = am_cn (am_in y).2.1 ∧ (am_mt y).2.2.2 = [] ∧ (am_mt y).2.1 ≤ 30 ∧ (parseMethodDescriptor (am_y y).desc).map (fun d => d.parameters.length) = some ((am_in y).1 - (if (am_mt y).2.2.1 = 0 then 0 else 1)) ∧ ((am_mt y).2.2.1 = 0 ∨ (am_mt y).2.2.1 = (am_in y).2.1 + 1) ∧ (am_in y).1 ≤ (am_mt y).2.1)) am_w_desc_80 (by omega) (by omega))
  by_cases h120 : y < 120
  · exact of_decide_eq_true (am_all_range (f := fun y => decide ((am_y y).cls ≠ "java/lang/invoke/MethodHandle" ∧ (am_y y).cls ≠ "java/lang/invoke/VarHandle" ∧ (_root_.Jvm.plainName (am_y y).cls || plainFor (am_y y)) = true ∧ (am_y y).cls = am_cn (am_in y).2.1 ∧ (am_mt y).2.2.2 = [] ∧ (am_mt y).2.1 ≤ 30 ∧ (parseMethodDescriptor (am_y y).desc).map (fun d => d.parameters.length) = some ((am_in y).1 - (if (am_mt y).2.2.1 = 0 then 0 else 1)) ∧ ((am_mt y).2.2.1 = 0 ∨ (am_mt y).2.2.1 = (am_in y).2.1 + 1) ∧ (am_in y).1 ≤ (am_mt y).2.1)) am_w_desc_100 (by omega) (by omega))
  by_cases h140 : y < 140
  · exact of_decide_eq_true (am_all_range (f := fun y => decide ((am_y y).cls ≠ "java/lang/invoke/MethodHandle" ∧ (am_y y).cls ≠ "java/lang/invoke/VarHandle" ∧ (_root_.Jvm.plainName (am_y y).cls || plainFor (am_y y)) = true ∧ (am_y y).cls = am_cn (am_in y).2.1 ∧ (am_mt y).2.2.2 = [] ∧ (am_mt y).2.1 ≤ 30 ∧ (parseMethodDescriptor (am_y y).desc).map (fun d => d.parameters.length) = some ((am_in y).1 - (if (am_mt y).2.2.1 = 0 then 0 else 1)) ∧ ((am_mt y).2.2.1 = 0 ∨ (am_mt y).2.2.1 = (am_in y).2.1 + 1) ∧ (am_in y).1 ≤ (am_mt y).2.1)) am_w_desc_120 (by omega) (by omega))
  by_cases h160 : y < 160
  · exact of_decide_eq_true (am_all_range (f := fun y => decide ((am_y y).cls ≠ "java/lang/invoke/MethodHandle" ∧ (am_y y).cls ≠ "java/lang/invoke/VarHandle" ∧ (_root_.Jvm.plainName (am_y y).cls || plainFor (am_y y)) = true ∧ (am_y y).cls = am_cn (am_in y).2.1 ∧ (am_mt y).2.2.2 = [] ∧ (am_mt y).2.1 ≤ 30 ∧ (parseMethodDescriptor (am_y y).desc).map (fun d => d.parameters.length) = some ((am_in y).1 - (if (am_mt y).2.2.1 = 0 then 0 else 1)) ∧ ((am_mt y).2.2.1 = 0 ∨ (am_mt y).2.2.1 = (am_in y).2.1 + 1) ∧ (am_in y).1 ≤ (am_mt y).2.1)) am_w_desc_140 (by omega) (by omega))
  by_cases h180 : y < 180
  · exact of_decide_eq_true (am_all_range (f := fun y => decide ((am_y y).cls ≠ "java/lang/invoke/MethodHandle" ∧ (am_y y).cls ≠ "java/lang/invoke/VarHandle" ∧ (_root_.Jvm.plainName (am_y y).cls || plainFor (am_y y)) = true ∧ (am_y y).cls = am_cn (am_in y).2.1 ∧ (am_mt y).2.2.2 = [] ∧ (am_mt y).2.1 ≤ 30 ∧ (parseMethodDescriptor (am_y y).desc).map (fun d => d.parameters.length) = some ((am_in y).1 - (if (am_mt y).2.2.1 = 0 then 0 else 1)) ∧ ((am_mt y).2.2.1 = 0 ∨ (am_mt y).2.2.1 = (am_in y).2.1 + 1) ∧ (am_in y).1 ≤ (am_mt y).2.1)) am_w_desc_160 (by omega) (by omega))
  by_cases h200 : y < 200
  · exact of_decide_eq_true (am_all_range (f := fun y => decide ((am_y y).cls ≠ "java/lang/invoke/MethodHandle" ∧ (am_y y).cls ≠ "java/lang/invoke/VarHandle" ∧ (_root_.Jvm.plainName (am_y y).cls || plainFor (am_y y)) = true ∧ (am_y y).cls = am_cn (am_in y).2.1 ∧ (am_mt y).2.2.2 = [] ∧ (am_mt y).2.1 ≤ 30 ∧ (parseMethodDescriptor (am_y y).desc).map (fun d => d.parameters.length) = some ((am_in y).1 - (if (am_mt y).2.2.1 = 0 then 0 else 1)) ∧ ((am_mt y).2.2.1 = 0 ∨ (am_mt y).2.2.1 = (am_in y).2.1 + 1) ∧ (am_in y).1 ≤ (am_mt y).2.1)) am_w_desc_180 (by omega) (by omega))
  by_cases h220 : y < 220
  · exact of_decide_eq_true (am_all_range (f := fun y => decide ((am_y y).cls ≠ "java/lang/invoke/MethodHandle" ∧ (am_y y).cls ≠ "java/lang/invoke/VarHandle" ∧ (_root_.Jvm.plainName (am_y y).cls || plainFor (am_y y)) = true ∧ (am_y y).cls = am_cn (am_in y).2.1 ∧ (am_mt y).2.2.2 = [] ∧ (am_mt y).2.1 ≤ 30 ∧ (parseMethodDescriptor (am_y y).desc).map (fun d => d.parameters.length) = some ((am_in y).1 - (if (am_mt y).2.2.1 = 0 then 0 else 1)) ∧ ((am_mt y).2.2.1 = 0 ∨ (am_mt y).2.2.1 = (am_in y).2.1 + 1) ∧ (am_in y).1 ≤ (am_mt y).2.1)) am_w_desc_200 (by omega) (by omega))
  by_cases h240 : y < 240
  · exact of_decide_eq_true (am_all_range (f := fun y => decide ((am_y y).cls ≠ "java/lang/invoke/MethodHandle" ∧ (am_y y).cls ≠ "java/lang/invoke/VarHandle" ∧ (_root_.Jvm.plainName (am_y y).cls || plainFor (am_y y)) = true ∧ (am_y y).cls = am_cn (am_in y).2.1 ∧ (am_mt y).2.2.2 = [] ∧ (am_mt y).2.1 ≤ 30 ∧ (parseMethodDescriptor (am_y y).desc).map (fun d => d.parameters.length) = some ((am_in y).1 - (if (am_mt y).2.2.1 = 0 then 0 else 1)) ∧ ((am_mt y).2.2.1 = 0 ∨ (am_mt y).2.2.1 = (am_in y).2.1 + 1) ∧ (am_in y).1 ≤ (am_mt y).2.1)) am_w_desc_220 (by omega) (by omega))
  by_cases h260 : y < 260
  · exact of_decide_eq_true (am_all_range (f := fun y => decide ((am_y y).cls ≠ "java/lang/invoke/MethodHandle" ∧ (am_y y).cls ≠ "java/lang/invoke/VarHandle" ∧ (_root_.Jvm.plainName (am_y y).cls || plainFor (am_y y)) = true ∧ (am_y y).cls = am_cn (am_in y).2.1 ∧ (am_mt y).2.2.2 = [] ∧ (am_mt y).2.1 ≤ 30 ∧ (parseMethodDescriptor (am_y y).desc).map (fun d => d.parameters.length) = some ((am_in y).1 - (if (am_mt y).2.2.1 = 0 then 0 else 1)) ∧ ((am_mt y).2.2.1 = 0 ∨ (am_mt y).2.2.1 = (am_in y).2.1 + 1) ∧ (am_in y).1 ≤ (am_mt y).2.1)) am_w_desc_240 (by omega) (by omega))
  by_cases h280 : y < 280
  · exact of_decide_eq_true (am_all_range (f := fun y => decide ((am_y y).cls ≠ "java/lang/invoke/MethodHandle" ∧ (am_y y).cls ≠ "java/lang/invoke/VarHandle" ∧ (_root_.Jvm.plainName (am_y y).cls || plainFor (am_y y)) = true ∧ (am_y y).cls = am_cn (am_in y).2.1 ∧ (am_mt y).2.2.2 = [] ∧ (am_mt y).2.1 ≤ 30 ∧ (parseMethodDescriptor (am_y y).desc).map (fun d => d.parameters.length) = some ((am_in y).1 - (if (am_mt y).2.2.1 = 0 then 0 else 1)) ∧ ((am_mt y).2.2.1 = 0 ∨ (am_mt y).2.2.1 = (am_in y).2.1 + 1) ∧ (am_in y).1 ≤ (am_mt y).2.1)) am_w_desc_260 (by omega) (by omega))
  by_cases h300 : y < 300
  · exact of_decide_eq_true (am_all_range (f := fun y => decide ((am_y y).cls ≠ "java/lang/invoke/MethodHandle" ∧ (am_y y).cls ≠ "java/lang/invoke/VarHandle" ∧ (_root_.Jvm.plainName (am_y y).cls || plainFor (am_y y)) = true ∧ (am_y y).cls = am_cn (am_in y).2.1 ∧ (am_mt y).2.2.2 = [] ∧ (am_mt y).2.1 ≤ 30 ∧ (parseMethodDescriptor (am_y y).desc).map (fun d => d.parameters.length) = some ((am_in y).1 - (if (am_mt y).2.2.1 = 0 then 0 else 1)) ∧ ((am_mt y).2.2.1 = 0 ∨ (am_mt y).2.2.1 = (am_in y).2.1 + 1) ∧ (am_in y).1 ≤ (am_mt y).2.1)) am_w_desc_280 (by omega) (by omega))
  by_cases h319 : y < 319
  · exact of_decide_eq_true (am_all_range (f := fun y => decide ((am_y y).cls ≠ "java/lang/invoke/MethodHandle" ∧ (am_y y).cls ≠ "java/lang/invoke/VarHandle" ∧ (_root_.Jvm.plainName (am_y y).cls || plainFor (am_y y)) = true ∧ (am_y y).cls = am_cn (am_in y).2.1 ∧ (am_mt y).2.2.2 = [] ∧ (am_mt y).2.1 ≤ 30 ∧ (parseMethodDescriptor (am_y y).desc).map (fun d => d.parameters.length) = some ((am_in y).1 - (if (am_mt y).2.2.1 = 0 then 0 else 1)) ∧ ((am_mt y).2.2.1 = 0 ∨ (am_mt y).2.2.1 = (am_in y).2.1 + 1) ∧ (am_in y).1 ≤ (am_mt y).2.1)) am_w_desc_300 (by omega) (by omega))
  omega
theorem am_w_rt : ∀ y, y < 319 → (((am_in y).2.2.1 = 0 ∧ am_rt y = some .int) ∨ ((am_in y).2.2.1 = 2 ∧ am_rt y = some .boolean) ∨ ((am_in y).2.2.1 = 1 ∧ am_rt y = none)) := by decide +kernel
theorem am_cpM_ok_0 : ∀ q ∈ am_cpM 0, am_lk (q.2.2) = some (.methodLink (am_cn 0) q.1 (am_y q.2.1)) := by decide +kernel
theorem am_cpM_ok_1 : ∀ q ∈ am_cpM 1, am_lk (q.2.2) = some (.methodLink (am_cn 1) q.1 (am_y q.2.1)) := by decide +kernel
theorem am_cpM_ok_2 : ∀ q ∈ am_cpM 2, am_lk (q.2.2) = some (.methodLink (am_cn 2) q.1 (am_y q.2.1)) := by decide +kernel
theorem am_cpM_ok_3 : ∀ q ∈ am_cpM 3, am_lk (q.2.2) = some (.methodLink (am_cn 3) q.1 (am_y q.2.1)) := by decide +kernel
theorem am_cpM_ok_4 : ∀ q ∈ am_cpM 4, am_lk (q.2.2) = some (.methodLink (am_cn 4) q.1 (am_y q.2.1)) := by decide +kernel
theorem am_cpM_ok_5 : ∀ q ∈ am_cpM 5, am_lk (q.2.2) = some (.methodLink (am_cn 5) q.1 (am_y q.2.1)) := by decide +kernel
theorem am_cpM_ok_6 : ∀ q ∈ am_cpM 6, am_lk (q.2.2) = some (.methodLink (am_cn 6) q.1 (am_y q.2.1)) := by decide +kernel
theorem am_cpM_ok_7 : ∀ q ∈ am_cpM 7, am_lk (q.2.2) = some (.methodLink (am_cn 7) q.1 (am_y q.2.1)) := by decide +kernel
theorem am_cpM_ok_8 : ∀ q ∈ am_cpM 8, am_lk (q.2.2) = some (.methodLink (am_cn 8) q.1 (am_y q.2.1)) := by decide +kernel
theorem am_cpM_ok_9 : ∀ q ∈ am_cpM 9, am_lk (q.2.2) = some (.methodLink (am_cn 9) q.1 (am_y q.2.1)) := by decide +kernel
theorem am_cpM_ok_10 : ∀ q ∈ am_cpM 10, am_lk (q.2.2) = some (.methodLink (am_cn 10) q.1 (am_y q.2.1)) := by decide +kernel
theorem am_cpM_ok_11 : ∀ q ∈ am_cpM 11, am_lk (q.2.2) = some (.methodLink (am_cn 11) q.1 (am_y q.2.1)) := by decide +kernel
theorem am_cpM_ok_12 : ∀ q ∈ am_cpM 12, am_lk (q.2.2) = some (.methodLink (am_cn 12) q.1 (am_y q.2.1)) := by decide +kernel
theorem am_cpM_ok_13 : ∀ q ∈ am_cpM 13, am_lk (q.2.2) = some (.methodLink (am_cn 13) q.1 (am_y q.2.1)) := by decide +kernel
theorem am_cpM_ok_14 : ∀ q ∈ am_cpM 14, am_lk (q.2.2) = some (.methodLink (am_cn 14) q.1 (am_y q.2.1)) := by decide +kernel
theorem am_cpM_ok_15 : ∀ q ∈ am_cpM 15, am_lk (q.2.2) = some (.methodLink (am_cn 15) q.1 (am_y q.2.1)) := by decide +kernel
theorem am_cpM_ok_16 : ∀ q ∈ am_cpM 16, am_lk (q.2.2) = some (.methodLink (am_cn 16) q.1 (am_y q.2.1)) := by decide +kernel
theorem am_cpM_ok (o : Nat) (ho : o < 17) : ∀ q ∈ am_cpM o, am_lk (q.2.2) = some (.methodLink (am_cn o) q.1 (am_y q.2.1)) := by
  rcases (show o = 0 ∨ o = 1 ∨ o = 2 ∨ o = 3 ∨ o = 4 ∨ o = 5 ∨ o = 6 ∨ o = 7 ∨ o = 8 ∨ o = 9 ∨ o = 10 ∨ o = 11 ∨ o = 12 ∨ o = 13 ∨ o = 14 ∨ o = 15 ∨ o = 16 by omega) with rfl | rfl | rfl | rfl | rfl | rfl | rfl | rfl | rfl | rfl | rfl | rfl | rfl | rfl | rfl | rfl | rfl
  · exact am_cpM_ok_0
  · exact am_cpM_ok_1
  · exact am_cpM_ok_2
  · exact am_cpM_ok_3
  · exact am_cpM_ok_4
  · exact am_cpM_ok_5
  · exact am_cpM_ok_6
  · exact am_cpM_ok_7
  · exact am_cpM_ok_8
  · exact am_cpM_ok_9
  · exact am_cpM_ok_10
  · exact am_cpM_ok_11
  · exact am_cpM_ok_12
  · exact am_cpM_ok_13
  · exact am_cpM_ok_14
  · exact am_cpM_ok_15
  · exact am_cpM_ok_16
theorem am_cpN_ok : ∀ o, o < 17 → ∀ q ∈ am_cpN o, q.2.1 < 319 ∧ am_lk (q.2.2) = some (.methodLinkNest (am_cn o) q.1 (am_y q.2.1) "DayTables") := by decide +kernel
theorem am_cpS_ok : ∀ o, o < 17 → ∀ q ∈ am_cpS o, (q.2.1 = 0 → am_lk (q.2.2) = some (.methodLink (am_cn o) q.1 y_len)) ∧ (q.2.1 = 1 → am_lk (q.2.2) = some (.methodLink (am_cn o) q.1 y_chr)) ∧ (q.2.1 = 2 → am_lk (q.2.2) = some (.methodLink (am_cn o) q.1 arraycopyName)) := by decide +kernel
theorem am_cpX_ok : ∀ o, o < 17 → ∀ q ∈ am_cpX o, am_lk (q.2.2) = some (.classLink (am_cn o) q.1 (am_en q.2.1)) := by decide +kernel
theorem am_getD_nil {β : Type} {l : List (List β)} {o : Nat} (h : l.length ≤ o) : l.getD o [] = [] := by
  rw [List.getD_eq_getElem?_getD, List.getElem?_eq_none h]
  rfl
theorem am_cpM_lt {o : Nat} {q : Nat × Nat × Nat} (h : q ∈ am_cpM o) : o < 17 := by
  rcases Nat.lt_or_ge o 17 with h1 | h1
  · exact h1
  · rw [show am_cpM o = [] from am_getD_nil (by simpa using h1)] at h
    cases h
theorem am_cpN_lt {o : Nat} {q : Nat × Nat × Nat} (h : q ∈ am_cpN o) : o < 17 := by
  rcases Nat.lt_or_ge o 17 with h1 | h1
  · exact h1
  · rw [show am_cpN o = [] from am_getD_nil (by simpa using h1)] at h
    cases h
theorem am_cpS_lt {o : Nat} {q : Nat × Nat × Nat} (h : q ∈ am_cpS o) : o < 17 := by
  rcases Nat.lt_or_ge o 17 with h1 | h1
  · exact h1
  · rw [show am_cpS o = [] from am_getD_nil (by simpa using h1)] at h
    cases h
theorem am_cpX_lt {o : Nat} {q : Nat × Nat × Nat} (h : q ∈ am_cpX o) : o < 17 := by
  rcases Nat.lt_or_ge o 17 with h1 | h1
  · exact h1
  · rw [show am_cpX o = [] from am_getD_nil (by simpa using h1)] at h
    cases h
theorem am_w_ci : ∀ y, y < 319 → (am_mt y).2.2.1 ≠ 0 → (am_in y).2.1 < 13 := by decide +kernel
theorem am_w_pc : ∀ y, y < 319 → (match (am_mt y).1 with | [] => 0 | e :: _ => e.1) = 0 := by decide +kernel
