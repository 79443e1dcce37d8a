/-! THROWS: the words of throw new E("text"), by their places (places printed by wip/whole/gen18.py) -/
def am_nms : List String := ["java/lang/RuntimeException", "java/lang/Exception"]
theorem am_thr_11_116 : vx_atS (am_cn 11) 116 (am_en 1) am_nms = ([1020, 3206, 3215, 3221, 3224, 3226, 3207, 3208, 1036, 1037, 3209, 3214, 3222, 4002, 3196, 4003, 3198, 4004, 3200, 3210, 3212, 3202, 3238, 3239, 4001, 3202, 4122, 4123, 4124, 3232, 3188, 3232, 3233, 3234, 3235, 3190, 3235, 3236, 3237, 3238, 3192, 4121, 4112, 4113, 4114, 3219, 4115, 4116, 4117, 4118, 3205, 3204, 4119] : List Nat).filterMap am_lk := by decide +kernel
theorem am_thg_11_116 : (vx_atS (am_cn 11) 116 (am_en 1) am_nms).all (fun w => goodWord w || am_isB w) = true := by decide +kernel
theorem am_thr_11_237 : vx_atS (am_cn 11) 237 (am_en 4) am_nms = ([1020, 3206, 3215, 3221, 3224, 3226, 3207, 3208, 1036, 1037, 3209, 3214, 3222, 4002, 3196, 4003, 3198, 4004, 3200, 3210, 3212, 3202, 3238, 3239, 4001, 3202, 5172, 5173, 5174, 3232, 3188, 3232, 3233, 3234, 3235, 3190, 3235, 3236, 3237, 3238, 3192, 5171, 5162, 5163, 5164, 3217, 5165, 5166, 5167, 5168, 3205, 3204, 5169] : List Nat).filterMap am_lk := by decide +kernel
theorem am_thg_11_237 : (vx_atS (am_cn 11) 237 (am_en 4) am_nms).all (fun w => goodWord w || am_isB w) = true := by decide +kernel
theorem am_thr_11_288 : vx_atS (am_cn 11) 288 (am_en 0) am_nms = ([1020, 3206, 3215, 3221, 3224, 3226, 3207, 3208, 1036, 1037, 3209, 3214, 3222, 4002, 3196, 4003, 3198, 4004, 3200, 3210, 3212, 3202, 3238, 3239, 4001, 3202, 3229, 3230, 3231, 3232, 3188, 3232, 3233, 3234, 3235, 3190, 3235, 3236, 3237, 3238, 3192, 5002, 3185, 3186, 3193, 3194, 3195, 3197, 3199, 3201, 3205, 3204, 3203] : List Nat).filterMap am_lk := by decide +kernel
theorem am_thg_11_288 : (vx_atS (am_cn 11) 288 (am_en 0) am_nms).all (fun w => goodWord w || am_isB w) = true := by decide +kernel
theorem am_thr_11_387 : vx_atS (am_cn 11) 387 (am_en 2) am_nms = ([1020, 3206, 3215, 3221, 3224, 3226, 3207, 3208, 1036, 1037, 3209, 3214, 3222, 4002, 3196, 4003, 3198, 4004, 3200, 3210, 3212, 3202, 3238, 3239, 4001, 3202, 4231, 4232, 4233, 3232, 3188, 3232, 3233, 3234, 3235, 3190, 3235, 3236, 3237, 3238, 3192, 4230, 4221, 4222, 4223, 3218, 4224, 4225, 4226, 4227, 3205, 3204, 4228] : List Nat).filterMap am_lk := by decide +kernel
theorem am_thg_11_387 : (vx_atS (am_cn 11) 387 (am_en 2) am_nms).all (fun w => goodWord w || am_isB w) = true := by decide +kernel
theorem am_thr_8_54 : vx_atS (am_cn 8) 54 (am_en 0) am_nms = ([1020, 3206, 3215, 3221, 3224, 3226, 3207, 3208, 1036, 1037, 3209, 3214, 3222, 4002, 3196, 4003, 3198, 4004, 3200, 3210, 3212, 3202, 3238, 3239, 4001, 3202, 3229, 3230, 3231, 3232, 3188, 3232, 3233, 3234, 3235, 3190, 3235, 3236, 3237, 3238, 3192, 3228, 3185, 3186, 3193, 3194, 3195, 3197, 3199, 3201, 3205, 3204, 3203] : List Nat).filterMap am_lk := by decide +kernel
theorem am_thg_8_54 : (vx_atS (am_cn 8) 54 (am_en 0) am_nms).all (fun w => goodWord w || am_isB w) = true := by decide +kernel
def am_thrOK (o ic E : Nat) : Prop := (∃ ps : List Nat, vx_atS (am_cn o) ic (am_en E) am_nms = ps.filterMap am_lk) ∧ (vx_atS (am_cn o) ic (am_en E) am_nms).all (fun w => goodWord w || am_isB w) = true
theorem am_thr_ok {o : Nat} {q : Nat × Nat × Nat} (h : q ∈ am_cpC o) (h3 : q.2.1 ≠ 3) : am_thrOK o q.1 q.2.1 := by
  have ho : o < 17 := by
    rcases Nat.lt_or_ge o 17 with h1 | h1
    · exact h1
    · rw [show am_cpC o = [] from am_getD_nil (by simpa using h1)] at h
      cases h
  rcases (show o = 0 ∨ o = 1 ∨ o = 2 ∨ o = 3 ∨ o = 4 ∨ o = 5 ∨ o = 6 ∨ o = 7 ∨ o = 8 ∨ o = 9 ∨ o = 10 ∨ o = 11 ∨ o = 12 ∨ o = 13 ∨ o = 14 ∨ o = 15 ∨ o = 16 by omega) with rfl | rfl | rfl | rfl | rfl | rfl | rfl | rfl | rfl | rfl | rfl | rfl | rfl | rfl | rfl | rfl | rfl
  · cases h
  · cases h
  · cases h
  · cases h
  · cases h
  · cases h
  · cases h
  · cases h
  · have h : q ∈ ([(54, 0, 3228)] : List (Nat × Nat × Nat)) := h
    simp only [List.mem_cons, List.not_mem_nil, or_false] at h
    rcases h with rfl
    · exact ⟨⟨_, am_thr_8_54⟩, am_thg_8_54⟩
  · cases h
  · cases h
  · have h : q ∈ ([(116, 1, 4121), (189, 3, 5061), (237, 4, 5171), (288, 0, 5002), (387, 2, 4230)] : List (Nat × Nat × Nat)) := h
    simp only [List.mem_cons, List.not_mem_nil, or_false] at h
    rcases h with rfl | rfl | rfl | rfl | rfl
    · exact ⟨⟨_, am_thr_11_116⟩, am_thg_11_116⟩
    · exact absurd rfl h3
    · exact ⟨⟨_, am_thr_11_237⟩, am_thg_11_237⟩
    · exact ⟨⟨_, am_thr_11_288⟩, am_thg_11_288⟩
    · exact ⟨⟨_, am_thr_11_387⟩, am_thg_11_387⟩
  · cases h
  · cases h
  · cases h
  · cases h
  · cases h
theorem am_ok_ot {w : Cond} (h : (goodWord w || am_isB w) = true) : vx_ot w = true := by
  unfold vx_ot
  rcases Bool.or_eq_true_iff.mp h with h | h
  · rw [h, Bool.or_true]
  · cases w <;> first | (simp [am_isB] at h; done) | rfl
theorem am_thr_hat {s : State} {args : Array Value} {D : va_G} {cs : am_CS} {sA aV : Nat → Nat} {B : Nat} {X : Nat × (Nat → Int32)} {A : Nat → Prop} {o ic E : Nat} (hts : ∀ w ∈ am_TG, w.before args s = true) (hC : am_Cx D cs sA aV B X A s) (h : am_thrOK o ic E) : ∀ w ∈ vx_atS (am_cn o) ic (am_en E) am_nms, w.before args s = true := by
  obtain ⟨⟨ps, h1⟩, h2⟩ := h
  intro w hw
  have hg := List.all_eq_true.mp h2 w hw
  rw [h1] at hw
  obtain ⟨i, -, hi⟩ := List.mem_filterMap.mp hw
  have hm := am_lk_mem hi
  rcases Bool.or_eq_true_iff.mp hg with hg | hg
  · exact hts w (List.mem_filter.mpr ⟨hm, hg⟩)
  · exact va_Nw.use (by cases w <;> first | (simp [am_isB] at hg; done) | rfl) (hC.2.2.2.2.2.2.2.2.2.2 w hm hg)
theorem am_en_ini : ∀ E, E < 5 → am_lk ([1023, 1024, 1025, 1026, 1028].getD E 0) = some (.initialized (am_en E)) := by decide +kernel
theorem am_en_fit : ∀ E, E < 5 → Bundle.fit (am_en E) = true := by decide +kernel
theorem am_nms_fit : ∀ n ∈ am_nms, Bundle.fit n = true := by decide +kernel
theorem am_cpX_lt5 : ∀ o, o < 17 → ∀ q ∈ am_cpX o, q.2.1 < 5 := by decide +kernel
