/-! WRAPPERS over the fixed naming (printed by wip/whole/gen9125.py) -/
/-- what a wrapper answers: 0 and the value in the long cell, or which throw it was -/
def wR (Af As : AS) (cv : Nat × Int32) (f : Int32 → Int32) (sg : Mg) (r : am_R) : Prop := ∃ p' s, (∀ c, 800 ≤ c → c ≠ 900 → s c = sg c) ∧ ((cv.1 = 0 ∧ RC As p' s ∧ s 900 0 = f cv.2 ∧ r = ((gE p', s), .inl (some (vI 0)), 0, 0)) ∨ (¬ cv.1 = 0 ∧ RC Af p' s ∧ r = ((gE p', s), .inl (some (vI (nI cv.1))), 1, 6)))
theorem RC.mu9 {A : AS} {p : Nat → Nat} {s : Mg} (h : RC A p s) (hn : A.n ≤ 12) (v : Int32) : RC A p (mu s 900 0 v) := h.ext hn (fun c hc => mu_ne (by unfold relC at hc; omega))
def b01 (v : Int32) : Int32 := if v = 0 then 0 else 1
/-- country -/
theorem w_319 {X : Nat × (Nat → Int32)} {p : Nat → Nat} {sg : Mg} {Af As : AS} {ex : Nat → Nat} {cv : Nat × Int32} (hn : As.n ≤ 12) (hc : cv.1 ≤ 2) (x1 : ex 1 = 0) (x2 : ex 2 = 1) (h : gF X 40 137 [vR 0] p sg (cR Af As ex cv sg)) : gF X 41 319 [vR 0, vR 900] p sg (wR Af As cv id sg) := by
  refine h_in (cd := k_319) (nL := 3) (rc := 0) (hs := [(0, 12, 2), (1, 15, 2)]) rfl trivial (g_c1 rfl) ?_
  show hL X 40 k_319 [(0, 12, 2), (1, 15, 2)] k_319 [some (vR 0), some (vR 900), none] [] p sg 0 0 _
  refine h_pure 3 (k' := k_319.drop 3) (lv' := [some (vR 0), some (vR 900), none]) (st' := [vR 0, vI 0, vR 900]) rfl ?_
  refine h_calV (args := [vR 0]) (rest := [vI 0, vR 900]) rfl rfl (by decide) h (fun r hr => ?_)
  obtain ⟨p', s, h1, ⟨c0, hRC, rfl⟩ | ⟨c0, hRC, rfl⟩⟩ := hr
  · show hL X 40 k_319 [(0, 12, 2), (1, 15, 2)] (k_319.drop 4) [some (vR 0), some (vR 900), none] [vI cv.2, vI 0, vR 900] p' s 0 0 _
    refine h_i2l (h_last ?_)
    refine h_goto (k' := k_319.drop 13) rfl (h_pure 1 (k' := k_319.drop 14) (lv' := [some (vR 0), some (vR 900), none]) (st' := [vI 0]) rfl (h_iret ?_))
    exact ⟨p', _, fun c hc h9 => (mu_ne h9).trans (h1 c hc), Or.inl ⟨c0, hRC.mu9 hn _, mu_self, rfl⟩⟩
  · rcases (show cv.1 = 1 ∨ cv.1 = 2 by omega) with e | e
    · rw [e, x1]
      show hL X 40 k_319 [(0, 12, 2), (1, 15, 2)] (k_319.drop 8) [some (vR 0), some (vR 900), none] [] p' s 1 6 _
      refine h_pure 1 (k' := k_319.drop 9) (lv' := [some (vR 0), some (vR 900), none]) (st' := [vI 1]) rfl (h_iret ?_)
      exact ⟨p', s, fun c hc _ => h1 c hc, Or.inr ⟨c0, hRC, by rw [e]; rfl⟩⟩
    · rw [e, x2]
      show hL X 40 k_319 [(0, 12, 2), (1, 15, 2)] (k_319.drop 11) [some (vR 0), some (vR 900), none] [] p' s 1 6 _
      refine h_pure 1 (k' := k_319.drop 12) (lv' := [some (vR 0), some (vR 900), none]) (st' := [vI 2]) rfl (h_iret ?_)
      exact ⟨p', s, fun c hc _ => h1 c hc, Or.inr ⟨c0, hRC, by rw [e]; rfl⟩⟩
/-- law -/
theorem w_320 {X : Nat × (Nat → Int32)} {p : Nat → Nat} {sg : Mg} {Af As : AS} {ex : Nat → Nat} {cv : Nat × Int32} (hn : As.n ≤ 12) (hc : cv.1 ≤ 1) (x1 : ex 1 = 0) (h : gF X 40 138 [vR 0] p sg (cR Af As ex cv sg)) : gF X 41 320 [vR 0, vR 900] p sg (wR Af As cv id sg) := by
  refine h_in (cd := k_320) (nL := 3) (rc := 0) (hs := [(0, 12, 2)]) rfl trivial (g_c1 rfl) ?_
  show hL X 40 k_320 [(0, 12, 2)] k_320 [some (vR 0), some (vR 900), none] [] p sg 0 0 _
  refine h_pure 3 (k' := k_320.drop 3) (lv' := [some (vR 0), some (vR 900), none]) (st' := [vR 0, vI 0, vR 900]) rfl ?_
  refine h_calV (args := [vR 0]) (rest := [vI 0, vR 900]) rfl rfl (by decide) h (fun r hr => ?_)
  obtain ⟨p', s, h1, ⟨c0, hRC, rfl⟩ | ⟨c0, hRC, rfl⟩⟩ := hr
  · show hL X 40 k_320 [(0, 12, 2)] (k_320.drop 4) [some (vR 0), some (vR 900), none] [vI cv.2, vI 0, vR 900] p' s 0 0 _
    refine h_i2l (h_last ?_)
    refine h_goto (k' := k_320.drop 10) rfl (h_pure 1 (k' := k_320.drop 11) (lv' := [some (vR 0), some (vR 900), none]) (st' := [vI 0]) rfl (h_iret ?_))
    exact ⟨p', _, fun c hc h9 => (mu_ne h9).trans (h1 c hc), Or.inl ⟨c0, hRC.mu9 hn _, mu_self, rfl⟩⟩
  · have e : cv.1 = 1 := by omega
    rw [e, x1]
    show hL X 40 k_320 [(0, 12, 2)] (k_320.drop 8) [some (vR 0), some (vR 900), none] [] p' s 1 6 _
    refine h_pure 1 (k' := k_320.drop 9) (lv' := [some (vR 0), some (vR 900), none]) (st' := [vI 1]) rfl (h_iret ?_)
    exact ⟨p', s, fun c hc _ => h1 c hc, Or.inr ⟨c0, hRC, by rw [e]; rfl⟩⟩
/-- day -/
theorem w_321 {X : Nat × (Nat → Int32)} {p : Nat → Nat} {sg : Mg} {Af As : AS} {ex : Nat → Nat} {cv : Nat × Int32} {a0 : Int32} {a1 : Int32} (hn : As.n ≤ 12) (hc : cv.1 ≤ 2) (x1 : ex 1 = 2) (x2 : ex 2 = 0) (h : gF X 40 139 [vR 0, vI a0, vI a1] p sg (cR Af As ex cv sg)) : gF X 41 321 [vR 0, vI a0, vI a1, vR 900] p sg (wR Af As cv id sg) := by
  refine h_in (cd := k_321) (nL := 5) (rc := 0) (hs := [(2, 15, 4), (0, 19, 4)]) rfl trivial (g_c1 rfl) ?_
  show hL X 40 k_321 [(2, 15, 4), (0, 19, 4)] k_321 [some (vR 0), some (vI a0), some (vI a1), some (vR 900), none] [] p sg 0 0 _
  refine h_pure 5 (k' := k_321.drop 5) (lv' := [some (vR 0), some (vI a0), some (vI a1), some (vR 900), none]) (st' := [vI a1, vI a0, vR 0, vI 0, vR 900]) rfl ?_
  refine h_calV (args := [vR 0, vI a0, vI a1]) (rest := [vI 0, vR 900]) rfl rfl (by decide) h (fun r hr => ?_)
  obtain ⟨p', s, h1, ⟨c0, hRC, rfl⟩ | ⟨c0, hRC, rfl⟩⟩ := hr
  · show hL X 40 k_321 [(2, 15, 4), (0, 19, 4)] (k_321.drop 6) [some (vR 0), some (vI a0), some (vI a1), some (vR 900), none] [vI cv.2, vI 0, vR 900] p' s 0 0 _
    refine h_i2l (h_last ?_)
    refine h_goto (k' := k_321.drop 15) rfl (h_pure 1 (k' := k_321.drop 16) (lv' := [some (vR 0), some (vI a0), some (vI a1), some (vR 900), none]) (st' := [vI 0]) rfl (h_iret ?_))
    exact ⟨p', _, fun c hc h9 => (mu_ne h9).trans (h1 c hc), Or.inl ⟨c0, hRC.mu9 hn _, mu_self, rfl⟩⟩
  · rcases (show cv.1 = 1 ∨ cv.1 = 2 by omega) with e | e
    · rw [e, x1]
      show hL X 40 k_321 [(2, 15, 4), (0, 19, 4)] (k_321.drop 10) [some (vR 0), some (vI a0), some (vI a1), some (vR 900), none] [] p' s 1 6 _
      refine h_pure 1 (k' := k_321.drop 11) (lv' := [some (vR 0), some (vI a0), some (vI a1), some (vR 900), none]) (st' := [vI 1]) rfl (h_iret ?_)
      exact ⟨p', s, fun c hc _ => h1 c hc, Or.inr ⟨c0, hRC, by rw [e]; rfl⟩⟩
    · rw [e, x2]
      show hL X 40 k_321 [(2, 15, 4), (0, 19, 4)] (k_321.drop 13) [some (vR 0), some (vI a0), some (vI a1), some (vR 900), none] [] p' s 1 6 _
      refine h_pure 1 (k' := k_321.drop 14) (lv' := [some (vR 0), some (vI a0), some (vI a1), some (vR 900), none]) (st' := [vI 2]) rfl (h_iret ?_)
      exact ⟨p', s, fun c hc _ => h1 c hc, Or.inr ⟨c0, hRC, by rw [e]; rfl⟩⟩
/-- page -/
theorem w_322 {X : Nat × (Nat → Int32)} {p : Nat → Nat} {sg : Mg} {Af As : AS} {ex : Nat → Nat} {cv : Nat × Int32} {a0 : Int32} {a1 : Int32} (hn : As.n ≤ 12) (hc : cv.1 ≤ 1) (x1 : ex 1 = 2) (h : gF X 40 142 [vR 0, vI a0, vI a1] p sg (cR Af As ex cv sg)) : gF X 41 322 [vR 0, vI a0, vI a1, vR 900] p sg (wR Af As cv id sg) := by
  refine h_in (cd := k_322) (nL := 5) (rc := 0) (hs := [(2, 15, 4)]) rfl trivial (g_c1 rfl) ?_
  show hL X 40 k_322 [(2, 15, 4)] k_322 [some (vR 0), some (vI a0), some (vI a1), some (vR 900), none] [] p sg 0 0 _
  refine h_pure 5 (k' := k_322.drop 5) (lv' := [some (vR 0), some (vI a0), some (vI a1), some (vR 900), none]) (st' := [vI a1, vI a0, vR 0, vI 0, vR 900]) rfl ?_
  refine h_calV (args := [vR 0, vI a0, vI a1]) (rest := [vI 0, vR 900]) rfl rfl (by decide) h (fun r hr => ?_)
  obtain ⟨p', s, h1, ⟨c0, hRC, rfl⟩ | ⟨c0, hRC, rfl⟩⟩ := hr
  · show hL X 40 k_322 [(2, 15, 4)] (k_322.drop 6) [some (vR 0), some (vI a0), some (vI a1), some (vR 900), none] [vI cv.2, vI 0, vR 900] p' s 0 0 _
    refine h_i2l (h_last ?_)
    refine h_goto (k' := k_322.drop 12) rfl (h_pure 1 (k' := k_322.drop 13) (lv' := [some (vR 0), some (vI a0), some (vI a1), some (vR 900), none]) (st' := [vI 0]) rfl (h_iret ?_))
    exact ⟨p', _, fun c hc h9 => (mu_ne h9).trans (h1 c hc), Or.inl ⟨c0, hRC.mu9 hn _, mu_self, rfl⟩⟩
  · have e : cv.1 = 1 := by omega
    rw [e, x1]
    show hL X 40 k_322 [(2, 15, 4)] (k_322.drop 10) [some (vR 0), some (vI a0), some (vI a1), some (vR 900), none] [] p' s 1 6 _
    refine h_pure 1 (k' := k_322.drop 11) (lv' := [some (vR 0), some (vI a0), some (vI a1), some (vR 900), none]) (st' := [vI 1]) rfl (h_iret ?_)
    exact ⟨p', s, fun c hc _ => h1 c hc, Or.inr ⟨c0, hRC, by rw [e]; rfl⟩⟩
/-- when -/
theorem w_323 {X : Nat × (Nat → Int32)} {p : Nat → Nat} {sg : Mg} {Af As : AS} {ex : Nat → Nat} {cv : Nat × Int32} {a0 : Int32} {a1 : Int32} {a2 : Int32} (hn : As.n ≤ 12) (hc : cv.1 ≤ 2) (x1 : ex 1 = 2) (x2 : ex 2 = 0) (h : gF X 40 144 [vR 0, vI a0, vI a1, vI a2] p sg (cR Af As ex cv sg)) : gF X 41 323 [vR 0, vI a0, vI a1, vI a2, vR 900] p sg (wR Af As cv id sg) := by
  refine h_in (cd := k_323) (nL := 6) (rc := 0) (hs := [(2, 17, 5), (0, 21, 5)]) rfl trivial (g_c1 rfl) ?_
  show hL X 40 k_323 [(2, 17, 5), (0, 21, 5)] k_323 [some (vR 0), some (vI a0), some (vI a1), some (vI a2), some (vR 900), none] [] p sg 0 0 _
  refine h_pure 6 (k' := k_323.drop 6) (lv' := [some (vR 0), some (vI a0), some (vI a1), some (vI a2), some (vR 900), none]) (st' := [vI a2, vI a1, vI a0, vR 0, vI 0, vR 900]) rfl ?_
  refine h_calV (args := [vR 0, vI a0, vI a1, vI a2]) (rest := [vI 0, vR 900]) rfl rfl (by decide) h (fun r hr => ?_)
  obtain ⟨p', s, h1, ⟨c0, hRC, rfl⟩ | ⟨c0, hRC, rfl⟩⟩ := hr
  · show hL X 40 k_323 [(2, 17, 5), (0, 21, 5)] (k_323.drop 7) [some (vR 0), some (vI a0), some (vI a1), some (vI a2), some (vR 900), none] [vI cv.2, vI 0, vR 900] p' s 0 0 _
    refine h_i2l (h_last ?_)
    refine h_goto (k' := k_323.drop 16) rfl (h_pure 1 (k' := k_323.drop 17) (lv' := [some (vR 0), some (vI a0), some (vI a1), some (vI a2), some (vR 900), none]) (st' := [vI 0]) rfl (h_iret ?_))
    exact ⟨p', _, fun c hc h9 => (mu_ne h9).trans (h1 c hc), Or.inl ⟨c0, hRC.mu9 hn _, mu_self, rfl⟩⟩
  · rcases (show cv.1 = 1 ∨ cv.1 = 2 by omega) with e | e
    · rw [e, x1]
      show hL X 40 k_323 [(2, 17, 5), (0, 21, 5)] (k_323.drop 11) [some (vR 0), some (vI a0), some (vI a1), some (vI a2), some (vR 900), none] [] p' s 1 6 _
      refine h_pure 1 (k' := k_323.drop 12) (lv' := [some (vR 0), some (vI a0), some (vI a1), some (vI a2), some (vR 900), none]) (st' := [vI 1]) rfl (h_iret ?_)
      exact ⟨p', s, fun c hc _ => h1 c hc, Or.inr ⟨c0, hRC, by rw [e]; rfl⟩⟩
    · rw [e, x2]
      show hL X 40 k_323 [(2, 17, 5), (0, 21, 5)] (k_323.drop 14) [some (vR 0), some (vI a0), some (vI a1), some (vI a2), some (vR 900), none] [] p' s 1 6 _
      refine h_pure 1 (k' := k_323.drop 15) (lv' := [some (vR 0), some (vI a0), some (vI a1), some (vI a2), some (vR 900), none]) (st' := [vI 2]) rfl (h_iret ?_)
      exact ⟨p', s, fun c hc _ => h1 c hc, Or.inr ⟨c0, hRC, by rw [e]; rfl⟩⟩
/-- person -/
theorem w_324 {X : Nat × (Nat → Int32)} {p : Nat → Nat} {sg : Mg} {Af As : AS} {ex : Nat → Nat} {cv : Nat × Int32} {a0 : Int32} {a1 : Int32} (hn : As.n ≤ 12) (hc : cv.1 ≤ 2) (x1 : ex 1 = 2) (x2 : ex 2 = 3) (h : gF X 40 145 [vR 0, vI a0, vI a1] p sg (cR Af As ex cv sg)) : gF X 41 324 [vR 0, vI a0, vI a1, vR 900] p sg (wR Af As cv id sg) := by
  refine h_in (cd := k_324) (nL := 5) (rc := 0) (hs := [(2, 15, 4), (3, 19, 4)]) rfl trivial (g_c1 rfl) ?_
  show hL X 40 k_324 [(2, 15, 4), (3, 19, 4)] k_324 [some (vR 0), some (vI a0), some (vI a1), some (vR 900), none] [] p sg 0 0 _
  refine h_pure 5 (k' := k_324.drop 5) (lv' := [some (vR 0), some (vI a0), some (vI a1), some (vR 900), none]) (st' := [vI a1, vI a0, vR 0, vI 0, vR 900]) rfl ?_
  refine h_calV (args := [vR 0, vI a0, vI a1]) (rest := [vI 0, vR 900]) rfl rfl (by decide) h (fun r hr => ?_)
  obtain ⟨p', s, h1, ⟨c0, hRC, rfl⟩ | ⟨c0, hRC, rfl⟩⟩ := hr
  · show hL X 40 k_324 [(2, 15, 4), (3, 19, 4)] (k_324.drop 6) [some (vR 0), some (vI a0), some (vI a1), some (vR 900), none] [vI cv.2, vI 0, vR 900] p' s 0 0 _
    refine h_i2l (h_last ?_)
    refine h_goto (k' := k_324.drop 15) rfl (h_pure 1 (k' := k_324.drop 16) (lv' := [some (vR 0), some (vI a0), some (vI a1), some (vR 900), none]) (st' := [vI 0]) rfl (h_iret ?_))
    exact ⟨p', _, fun c hc h9 => (mu_ne h9).trans (h1 c hc), Or.inl ⟨c0, hRC.mu9 hn _, mu_self, rfl⟩⟩
  · rcases (show cv.1 = 1 ∨ cv.1 = 2 by omega) with e | e
    · rw [e, x1]
      show hL X 40 k_324 [(2, 15, 4), (3, 19, 4)] (k_324.drop 10) [some (vR 0), some (vI a0), some (vI a1), some (vR 900), none] [] p' s 1 6 _
      refine h_pure 1 (k' := k_324.drop 11) (lv' := [some (vR 0), some (vI a0), some (vI a1), some (vR 900), none]) (st' := [vI 1]) rfl (h_iret ?_)
      exact ⟨p', s, fun c hc _ => h1 c hc, Or.inr ⟨c0, hRC, by rw [e]; rfl⟩⟩
    · rw [e, x2]
      show hL X 40 k_324 [(2, 15, 4), (3, 19, 4)] (k_324.drop 13) [some (vR 0), some (vI a0), some (vI a1), some (vR 900), none] [] p' s 1 6 _
      refine h_pure 1 (k' := k_324.drop 14) (lv' := [some (vR 0), some (vI a0), some (vI a1), some (vR 900), none]) (st' := [vI 2]) rfl (h_iret ?_)
      exact ⟨p', s, fun c hc _ => h1 c hc, Or.inr ⟨c0, hRC, by rw [e]; rfl⟩⟩
/-- road -/
theorem w_325 {X : Nat × (Nat → Int32)} {p : Nat → Nat} {sg : Mg} {Af As : AS} {ex : Nat → Nat} {cv : Nat × Int32} {a0 : Int32} {a1 : Int32} (hn : As.n ≤ 12) (hc : cv.1 ≤ 2) (x1 : ex 1 = 2) (x2 : ex 2 = 3) (h : gF X 40 146 [vR 0, vI a0, vI a1] p sg (cR Af As ex cv sg)) : gF X 41 325 [vR 0, vI a0, vI a1, vR 900] p sg (wR Af As cv id sg) := by
  refine h_in (cd := k_325) (nL := 5) (rc := 0) (hs := [(2, 15, 4), (3, 19, 4)]) rfl trivial (g_c1 rfl) ?_
  show hL X 40 k_325 [(2, 15, 4), (3, 19, 4)] k_325 [some (vR 0), some (vI a0), some (vI a1), some (vR 900), none] [] p sg 0 0 _
  refine h_pure 5 (k' := k_325.drop 5) (lv' := [some (vR 0), some (vI a0), some (vI a1), some (vR 900), none]) (st' := [vI a1, vI a0, vR 0, vI 0, vR 900]) rfl ?_
  refine h_calV (args := [vR 0, vI a0, vI a1]) (rest := [vI 0, vR 900]) rfl rfl (by decide) h (fun r hr => ?_)
  obtain ⟨p', s, h1, ⟨c0, hRC, rfl⟩ | ⟨c0, hRC, rfl⟩⟩ := hr
  · show hL X 40 k_325 [(2, 15, 4), (3, 19, 4)] (k_325.drop 6) [some (vR 0), some (vI a0), some (vI a1), some (vR 900), none] [vI cv.2, vI 0, vR 900] p' s 0 0 _
    refine h_i2l (h_last ?_)
    refine h_goto (k' := k_325.drop 15) rfl (h_pure 1 (k' := k_325.drop 16) (lv' := [some (vR 0), some (vI a0), some (vI a1), some (vR 900), none]) (st' := [vI 0]) rfl (h_iret ?_))
    exact ⟨p', _, fun c hc h9 => (mu_ne h9).trans (h1 c hc), Or.inl ⟨c0, hRC.mu9 hn _, mu_self, rfl⟩⟩
  · rcases (show cv.1 = 1 ∨ cv.1 = 2 by omega) with e | e
    · rw [e, x1]
      show hL X 40 k_325 [(2, 15, 4), (3, 19, 4)] (k_325.drop 10) [some (vR 0), some (vI a0), some (vI a1), some (vR 900), none] [] p' s 1 6 _
      refine h_pure 1 (k' := k_325.drop 11) (lv' := [some (vR 0), some (vI a0), some (vI a1), some (vR 900), none]) (st' := [vI 1]) rfl (h_iret ?_)
      exact ⟨p', s, fun c hc _ => h1 c hc, Or.inr ⟨c0, hRC, by rw [e]; rfl⟩⟩
    · rw [e, x2]
      show hL X 40 k_325 [(2, 15, 4), (3, 19, 4)] (k_325.drop 13) [some (vR 0), some (vI a0), some (vI a1), some (vR 900), none] [] p' s 1 6 _
      refine h_pure 1 (k' := k_325.drop 14) (lv' := [some (vR 0), some (vI a0), some (vI a1), some (vR 900), none]) (st' := [vI 2]) rfl (h_iret ?_)
      exact ⟨p', s, fun c hc _ => h1 c hc, Or.inr ⟨c0, hRC, by rw [e]; rfl⟩⟩
/-- debt -/
theorem w_326 {X : Nat × (Nat → Int32)} {p : Nat → Nat} {sg : Mg} {Af As : AS} {ex : Nat → Nat} {cv : Nat × Int32} {a0 : Int32} {a1 : Int32} (hn : As.n ≤ 12) (hc : cv.1 ≤ 2) (x1 : ex 1 = 2) (x2 : ex 2 = 3) (h : gF X 40 148 [vR 0, vI a0, vI a1] p sg (cR Af As ex cv sg)) : gF X 41 326 [vR 0, vI a0, vI a1, vR 900] p sg (wR Af As cv id sg) := by
  refine h_in (cd := k_326) (nL := 5) (rc := 0) (hs := [(2, 15, 4), (3, 19, 4)]) rfl trivial (g_c1 rfl) ?_
  show hL X 40 k_326 [(2, 15, 4), (3, 19, 4)] k_326 [some (vR 0), some (vI a0), some (vI a1), some (vR 900), none] [] p sg 0 0 _
  refine h_pure 5 (k' := k_326.drop 5) (lv' := [some (vR 0), some (vI a0), some (vI a1), some (vR 900), none]) (st' := [vI a1, vI a0, vR 0, vI 0, vR 900]) rfl ?_
  refine h_calV (args := [vR 0, vI a0, vI a1]) (rest := [vI 0, vR 900]) rfl rfl (by decide) h (fun r hr => ?_)
  obtain ⟨p', s, h1, ⟨c0, hRC, rfl⟩ | ⟨c0, hRC, rfl⟩⟩ := hr
  · show hL X 40 k_326 [(2, 15, 4), (3, 19, 4)] (k_326.drop 6) [some (vR 0), some (vI a0), some (vI a1), some (vR 900), none] [vI cv.2, vI 0, vR 900] p' s 0 0 _
    refine h_i2l (h_last ?_)
    refine h_goto (k' := k_326.drop 15) rfl (h_pure 1 (k' := k_326.drop 16) (lv' := [some (vR 0), some (vI a0), some (vI a1), some (vR 900), none]) (st' := [vI 0]) rfl (h_iret ?_))
    exact ⟨p', _, fun c hc h9 => (mu_ne h9).trans (h1 c hc), Or.inl ⟨c0, hRC.mu9 hn _, mu_self, rfl⟩⟩
  · rcases (show cv.1 = 1 ∨ cv.1 = 2 by omega) with e | e
    · rw [e, x1]
      show hL X 40 k_326 [(2, 15, 4), (3, 19, 4)] (k_326.drop 10) [some (vR 0), some (vI a0), some (vI a1), some (vR 900), none] [] p' s 1 6 _
      refine h_pure 1 (k' := k_326.drop 11) (lv' := [some (vR 0), some (vI a0), some (vI a1), some (vR 900), none]) (st' := [vI 1]) rfl (h_iret ?_)
      exact ⟨p', s, fun c hc _ => h1 c hc, Or.inr ⟨c0, hRC, by rw [e]; rfl⟩⟩
    · rw [e, x2]
      show hL X 40 k_326 [(2, 15, 4), (3, 19, 4)] (k_326.drop 13) [some (vR 0), some (vI a0), some (vI a1), some (vR 900), none] [] p' s 1 6 _
      refine h_pure 1 (k' := k_326.drop 14) (lv' := [some (vR 0), some (vI a0), some (vI a1), some (vR 900), none]) (st' := [vI 2]) rfl (h_iret ?_)
      exact ⟨p', s, fun c hc _ => h1 c hc, Or.inr ⟨c0, hRC, by rw [e]; rfl⟩⟩
/-- task -/
theorem w_327 {X : Nat × (Nat → Int32)} {p : Nat → Nat} {sg : Mg} {Af As : AS} {ex : Nat → Nat} {cv : Nat × Int32} {a0 : Int32} {a1 : Int32} (hn : As.n ≤ 12) (hc : cv.1 ≤ 2) (x1 : ex 1 = 2) (x2 : ex 2 = 3) (h : gF X 40 149 [vR 0, vI a0, vI a1] p sg (cR Af As ex cv sg)) : gF X 41 327 [vR 0, vI a0, vI a1, vR 900] p sg (wR Af As cv id sg) := by
  refine h_in (cd := k_327) (nL := 5) (rc := 0) (hs := [(2, 15, 4), (3, 19, 4)]) rfl trivial (g_c1 rfl) ?_
  show hL X 40 k_327 [(2, 15, 4), (3, 19, 4)] k_327 [some (vR 0), some (vI a0), some (vI a1), some (vR 900), none] [] p sg 0 0 _
  refine h_pure 5 (k' := k_327.drop 5) (lv' := [some (vR 0), some (vI a0), some (vI a1), some (vR 900), none]) (st' := [vI a1, vI a0, vR 0, vI 0, vR 900]) rfl ?_
  refine h_calV (args := [vR 0, vI a0, vI a1]) (rest := [vI 0, vR 900]) rfl rfl (by decide) h (fun r hr => ?_)
  obtain ⟨p', s, h1, ⟨c0, hRC, rfl⟩ | ⟨c0, hRC, rfl⟩⟩ := hr
  · show hL X 40 k_327 [(2, 15, 4), (3, 19, 4)] (k_327.drop 6) [some (vR 0), some (vI a0), some (vI a1), some (vR 900), none] [vI cv.2, vI 0, vR 900] p' s 0 0 _
    refine h_i2l (h_last ?_)
    refine h_goto (k' := k_327.drop 15) rfl (h_pure 1 (k' := k_327.drop 16) (lv' := [some (vR 0), some (vI a0), some (vI a1), some (vR 900), none]) (st' := [vI 0]) rfl (h_iret ?_))
    exact ⟨p', _, fun c hc h9 => (mu_ne h9).trans (h1 c hc), Or.inl ⟨c0, hRC.mu9 hn _, mu_self, rfl⟩⟩
  · rcases (show cv.1 = 1 ∨ cv.1 = 2 by omega) with e | e
    · rw [e, x1]
      show hL X 40 k_327 [(2, 15, 4), (3, 19, 4)] (k_327.drop 10) [some (vR 0), some (vI a0), some (vI a1), some (vR 900), none] [] p' s 1 6 _
      refine h_pure 1 (k' := k_327.drop 11) (lv' := [some (vR 0), some (vI a0), some (vI a1), some (vR 900), none]) (st' := [vI 1]) rfl (h_iret ?_)
      exact ⟨p', s, fun c hc _ => h1 c hc, Or.inr ⟨c0, hRC, by rw [e]; rfl⟩⟩
    · rw [e, x2]
      show hL X 40 k_327 [(2, 15, 4), (3, 19, 4)] (k_327.drop 13) [some (vR 0), some (vI a0), some (vI a1), some (vR 900), none] [] p' s 1 6 _
      refine h_pure 1 (k' := k_327.drop 14) (lv' := [some (vR 0), some (vI a0), some (vI a1), some (vR 900), none]) (st' := [vI 2]) rfl (h_iret ?_)
      exact ⟨p', s, fun c hc _ => h1 c hc, Or.inr ⟨c0, hRC, by rw [e]; rfl⟩⟩
/-- fact -/
theorem w_328 {X : Nat × (Nat → Int32)} {p : Nat → Nat} {sg : Mg} {Af As : AS} {ex : Nat → Nat} {cv : Nat × Int32} {a0 : Int32} {a1 : Int32} (hn : As.n ≤ 12) (hc : cv.1 ≤ 1) (x1 : ex 1 = 2) (h : gF X 40 150 [vR 0, vI a0, vI a1] p sg (cR Af As ex cv sg)) : gF X 41 328 [vR 0, vI a0, vI a1, vR 900] p sg (wR Af As cv id sg) := by
  refine h_in (cd := k_328) (nL := 5) (rc := 0) (hs := [(2, 15, 4)]) rfl trivial (g_c1 rfl) ?_
  show hL X 40 k_328 [(2, 15, 4)] k_328 [some (vR 0), some (vI a0), some (vI a1), some (vR 900), none] [] p sg 0 0 _
  refine h_pure 5 (k' := k_328.drop 5) (lv' := [some (vR 0), some (vI a0), some (vI a1), some (vR 900), none]) (st' := [vI a1, vI a0, vR 0, vI 0, vR 900]) rfl ?_
  refine h_calV (args := [vR 0, vI a0, vI a1]) (rest := [vI 0, vR 900]) rfl rfl (by decide) h (fun r hr => ?_)
  obtain ⟨p', s, h1, ⟨c0, hRC, rfl⟩ | ⟨c0, hRC, rfl⟩⟩ := hr
  · show hL X 40 k_328 [(2, 15, 4)] (k_328.drop 6) [some (vR 0), some (vI a0), some (vI a1), some (vR 900), none] [vI cv.2, vI 0, vR 900] p' s 0 0 _
    refine h_i2l (h_last ?_)
    refine h_goto (k' := k_328.drop 12) rfl (h_pure 1 (k' := k_328.drop 13) (lv' := [some (vR 0), some (vI a0), some (vI a1), some (vR 900), none]) (st' := [vI 0]) rfl (h_iret ?_))
    exact ⟨p', _, fun c hc h9 => (mu_ne h9).trans (h1 c hc), Or.inl ⟨c0, hRC.mu9 hn _, mu_self, rfl⟩⟩
  · have e : cv.1 = 1 := by omega
    rw [e, x1]
    show hL X 40 k_328 [(2, 15, 4)] (k_328.drop 10) [some (vR 0), some (vI a0), some (vI a1), some (vR 900), none] [] p' s 1 6 _
    refine h_pure 1 (k' := k_328.drop 11) (lv' := [some (vR 0), some (vI a0), some (vI a1), some (vR 900), none]) (st' := [vI 1]) rfl (h_iret ?_)
    exact ⟨p', s, fun c hc _ => h1 c hc, Or.inr ⟨c0, hRC, by rw [e]; rfl⟩⟩
/-- rule -/
theorem w_329 {X : Nat × (Nat → Int32)} {p : Nat → Nat} {sg : Mg} {Af As : AS} {ex : Nat → Nat} {cv : Nat × Int32} {a0 : Int32} {a1 : Int32} {a2 : Int32} (hn : As.n ≤ 12) (hc : cv.1 ≤ 2) (x1 : ex 1 = 2) (x2 : ex 2 = 3) (h : gF X 40 151 [vR 0, vI a0, vI a1, vI a2] p sg (cR Af As ex cv sg)) : gF X 41 329 [vR 0, vI a0, vI a1, vI a2, vR 900] p sg (wR Af As cv id sg) := by
  refine h_in (cd := k_329) (nL := 6) (rc := 0) (hs := [(2, 17, 5), (3, 21, 5)]) rfl trivial (g_c1 rfl) ?_
  show hL X 40 k_329 [(2, 17, 5), (3, 21, 5)] k_329 [some (vR 0), some (vI a0), some (vI a1), some (vI a2), some (vR 900), none] [] p sg 0 0 _
  refine h_pure 6 (k' := k_329.drop 6) (lv' := [some (vR 0), some (vI a0), some (vI a1), some (vI a2), some (vR 900), none]) (st' := [vI a2, vI a1, vI a0, vR 0, vI 0, vR 900]) rfl ?_
  refine h_calV (args := [vR 0, vI a0, vI a1, vI a2]) (rest := [vI 0, vR 900]) rfl rfl (by decide) h (fun r hr => ?_)
  obtain ⟨p', s, h1, ⟨c0, hRC, rfl⟩ | ⟨c0, hRC, rfl⟩⟩ := hr
  · show hL X 40 k_329 [(2, 17, 5), (3, 21, 5)] (k_329.drop 7) [some (vR 0), some (vI a0), some (vI a1), some (vI a2), some (vR 900), none] [vI cv.2, vI 0, vR 900] p' s 0 0 _
    refine h_i2l (h_last ?_)
    refine h_goto (k' := k_329.drop 16) rfl (h_pure 1 (k' := k_329.drop 17) (lv' := [some (vR 0), some (vI a0), some (vI a1), some (vI a2), some (vR 900), none]) (st' := [vI 0]) rfl (h_iret ?_))
    exact ⟨p', _, fun c hc h9 => (mu_ne h9).trans (h1 c hc), Or.inl ⟨c0, hRC.mu9 hn _, mu_self, rfl⟩⟩
  · rcases (show cv.1 = 1 ∨ cv.1 = 2 by omega) with e | e
    · rw [e, x1]
      show hL X 40 k_329 [(2, 17, 5), (3, 21, 5)] (k_329.drop 11) [some (vR 0), some (vI a0), some (vI a1), some (vI a2), some (vR 900), none] [] p' s 1 6 _
      refine h_pure 1 (k' := k_329.drop 12) (lv' := [some (vR 0), some (vI a0), some (vI a1), some (vI a2), some (vR 900), none]) (st' := [vI 1]) rfl (h_iret ?_)
      exact ⟨p', s, fun c hc _ => h1 c hc, Or.inr ⟨c0, hRC, by rw [e]; rfl⟩⟩
    · rw [e, x2]
      show hL X 40 k_329 [(2, 17, 5), (3, 21, 5)] (k_329.drop 14) [some (vR 0), some (vI a0), some (vI a1), some (vI a2), some (vR 900), none] [] p' s 1 6 _
      refine h_pure 1 (k' := k_329.drop 15) (lv' := [some (vR 0), some (vI a0), some (vI a1), some (vI a2), some (vR 900), none]) (st' := [vI 2]) rfl (h_iret ?_)
      exact ⟨p', s, fun c hc _ => h1 c hc, Or.inr ⟨c0, hRC, by rw [e]; rfl⟩⟩
/-- go -/
theorem w_330 {X : Nat × (Nat → Int32)} {p : Nat → Nat} {sg : Mg} {Af As : AS} {ex : Nat → Nat} {cv : Nat × Int32} {a0 : Int32} {a1 : Int32} (hn : As.n ≤ 12) (hc : cv.1 ≤ 2) (x1 : ex 1 = 2) (x2 : ex 2 = 4) (h : gF X 40 152 [vR 0, vI a0, vI a1] p sg (cR Af As ex cv sg)) : gF X 41 330 [vR 0, vI a0, vI a1, vR 900] p sg (wR Af As cv id sg) := by
  refine h_in (cd := k_330) (nL := 5) (rc := 0) (hs := [(2, 15, 4), (4, 19, 4)]) rfl trivial (g_c1 rfl) ?_
  show hL X 40 k_330 [(2, 15, 4), (4, 19, 4)] k_330 [some (vR 0), some (vI a0), some (vI a1), some (vR 900), none] [] p sg 0 0 _
  refine h_pure 5 (k' := k_330.drop 5) (lv' := [some (vR 0), some (vI a0), some (vI a1), some (vR 900), none]) (st' := [vI a1, vI a0, vR 0, vI 0, vR 900]) rfl ?_
  refine h_calV (args := [vR 0, vI a0, vI a1]) (rest := [vI 0, vR 900]) rfl rfl (by decide) h (fun r hr => ?_)
  obtain ⟨p', s, h1, ⟨c0, hRC, rfl⟩ | ⟨c0, hRC, rfl⟩⟩ := hr
  · show hL X 40 k_330 [(2, 15, 4), (4, 19, 4)] (k_330.drop 6) [some (vR 0), some (vI a0), some (vI a1), some (vR 900), none] [vI cv.2, vI 0, vR 900] p' s 0 0 _
    refine h_i2l (h_last ?_)
    refine h_goto (k' := k_330.drop 15) rfl (h_pure 1 (k' := k_330.drop 16) (lv' := [some (vR 0), some (vI a0), some (vI a1), some (vR 900), none]) (st' := [vI 0]) rfl (h_iret ?_))
    exact ⟨p', _, fun c hc h9 => (mu_ne h9).trans (h1 c hc), Or.inl ⟨c0, hRC.mu9 hn _, mu_self, rfl⟩⟩
  · rcases (show cv.1 = 1 ∨ cv.1 = 2 by omega) with e | e
    · rw [e, x1]
      show hL X 40 k_330 [(2, 15, 4), (4, 19, 4)] (k_330.drop 10) [some (vR 0), some (vI a0), some (vI a1), some (vR 900), none] [] p' s 1 6 _
      refine h_pure 1 (k' := k_330.drop 11) (lv' := [some (vR 0), some (vI a0), some (vI a1), some (vR 900), none]) (st' := [vI 1]) rfl (h_iret ?_)
      exact ⟨p', s, fun c hc _ => h1 c hc, Or.inr ⟨c0, hRC, by rw [e]; rfl⟩⟩
    · rw [e, x2]
      show hL X 40 k_330 [(2, 15, 4), (4, 19, 4)] (k_330.drop 13) [some (vR 0), some (vI a0), some (vI a1), some (vR 900), none] [] p' s 1 6 _
      refine h_pure 1 (k' := k_330.drop 14) (lv' := [some (vR 0), some (vI a0), some (vI a1), some (vR 900), none]) (st' := [vI 2]) rfl (h_iret ?_)
      exact ⟨p', s, fun c hc _ => h1 c hc, Or.inr ⟨c0, hRC, by rw [e]; rfl⟩⟩
/-- give -/
theorem w_331 {X : Nat × (Nat → Int32)} {p : Nat → Nat} {sg : Mg} {Af As : AS} {ex : Nat → Nat} {cv : Nat × Int32} {a0 : Int32} {a1 : Int32} {a2 : Int32} (hn : As.n ≤ 12) (hc : cv.1 ≤ 3) (x1 : ex 1 = 2) (x2 : ex 2 = 0) (x3 : ex 3 = 4) (h : gF X 40 154 [vR 0, vI a0, vI a1, vI a2] p sg (cR Af As ex cv sg)) : gF X 41 331 [vR 0, vI a0, vI a1, vI a2, vR 900] p sg (wR Af As cv id sg) := by
  refine h_in (cd := k_331) (nL := 6) (rc := 0) (hs := [(2, 17, 5), (0, 21, 5), (4, 25, 5)]) rfl trivial (g_c1 rfl) ?_
  show hL X 40 k_331 [(2, 17, 5), (0, 21, 5), (4, 25, 5)] k_331 [some (vR 0), some (vI a0), some (vI a1), some (vI a2), some (vR 900), none] [] p sg 0 0 _
  refine h_pure 6 (k' := k_331.drop 6) (lv' := [some (vR 0), some (vI a0), some (vI a1), some (vI a2), some (vR 900), none]) (st' := [vI a2, vI a1, vI a0, vR 0, vI 0, vR 900]) rfl ?_
  refine h_calV (args := [vR 0, vI a0, vI a1, vI a2]) (rest := [vI 0, vR 900]) rfl rfl (by decide) h (fun r hr => ?_)
  obtain ⟨p', s, h1, ⟨c0, hRC, rfl⟩ | ⟨c0, hRC, rfl⟩⟩ := hr
  · show hL X 40 k_331 [(2, 17, 5), (0, 21, 5), (4, 25, 5)] (k_331.drop 7) [some (vR 0), some (vI a0), some (vI a1), some (vI a2), some (vR 900), none] [vI cv.2, vI 0, vR 900] p' s 0 0 _
    refine h_i2l (h_last ?_)
    refine h_goto (k' := k_331.drop 19) rfl (h_pure 1 (k' := k_331.drop 20) (lv' := [some (vR 0), some (vI a0), some (vI a1), some (vI a2), some (vR 900), none]) (st' := [vI 0]) rfl (h_iret ?_))
    exact ⟨p', _, fun c hc h9 => (mu_ne h9).trans (h1 c hc), Or.inl ⟨c0, hRC.mu9 hn _, mu_self, rfl⟩⟩
  · rcases (show cv.1 = 1 ∨ cv.1 = 2 ∨ cv.1 = 3 by omega) with e | e | e
    · rw [e, x1]
      show hL X 40 k_331 [(2, 17, 5), (0, 21, 5), (4, 25, 5)] (k_331.drop 11) [some (vR 0), some (vI a0), some (vI a1), some (vI a2), some (vR 900), none] [] p' s 1 6 _
      refine h_pure 1 (k' := k_331.drop 12) (lv' := [some (vR 0), some (vI a0), some (vI a1), some (vI a2), some (vR 900), none]) (st' := [vI 1]) rfl (h_iret ?_)
      exact ⟨p', s, fun c hc _ => h1 c hc, Or.inr ⟨c0, hRC, by rw [e]; rfl⟩⟩
    · rw [e, x2]
      show hL X 40 k_331 [(2, 17, 5), (0, 21, 5), (4, 25, 5)] (k_331.drop 14) [some (vR 0), some (vI a0), some (vI a1), some (vI a2), some (vR 900), none] [] p' s 1 6 _
      refine h_pure 1 (k' := k_331.drop 15) (lv' := [some (vR 0), some (vI a0), some (vI a1), some (vI a2), some (vR 900), none]) (st' := [vI 2]) rfl (h_iret ?_)
      exact ⟨p', s, fun c hc _ => h1 c hc, Or.inr ⟨c0, hRC, by rw [e]; rfl⟩⟩
    · rw [e, x3]
      show hL X 40 k_331 [(2, 17, 5), (0, 21, 5), (4, 25, 5)] (k_331.drop 17) [some (vR 0), some (vI a0), some (vI a1), some (vI a2), some (vR 900), none] [] p' s 1 6 _
      refine h_pure 1 (k' := k_331.drop 18) (lv' := [some (vR 0), some (vI a0), some (vI a1), some (vI a2), some (vR 900), none]) (st' := [vI 3]) rfl (h_iret ?_)
      exact ⟨p', s, fun c hc _ => h1 c hc, Or.inr ⟨c0, hRC, by rw [e]; rfl⟩⟩
/-- work -/
theorem w_332 {X : Nat × (Nat → Int32)} {p : Nat → Nat} {sg : Mg} {Af As : AS} {ex : Nat → Nat} {cv : Nat × Int32} {a0 : Int32} {a1 : Int32} (hn : As.n ≤ 12) (hc : cv.1 ≤ 2) (x1 : ex 1 = 2) (x2 : ex 2 = 4) (h : gF X 40 156 [vR 0, vI a0, vI a1] p sg (cR Af As ex cv sg)) : gF X 41 332 [vR 0, vI a0, vI a1, vR 900] p sg (wR Af As cv id sg) := by
  refine h_in (cd := k_332) (nL := 5) (rc := 0) (hs := [(2, 15, 4), (4, 19, 4)]) rfl trivial (g_c1 rfl) ?_
  show hL X 40 k_332 [(2, 15, 4), (4, 19, 4)] k_332 [some (vR 0), some (vI a0), some (vI a1), some (vR 900), none] [] p sg 0 0 _
  refine h_pure 5 (k' := k_332.drop 5) (lv' := [some (vR 0), some (vI a0), some (vI a1), some (vR 900), none]) (st' := [vI a1, vI a0, vR 0, vI 0, vR 900]) rfl ?_
  refine h_calV (args := [vR 0, vI a0, vI a1]) (rest := [vI 0, vR 900]) rfl rfl (by decide) h (fun r hr => ?_)
  obtain ⟨p', s, h1, ⟨c0, hRC, rfl⟩ | ⟨c0, hRC, rfl⟩⟩ := hr
  · show hL X 40 k_332 [(2, 15, 4), (4, 19, 4)] (k_332.drop 6) [some (vR 0), some (vI a0), some (vI a1), some (vR 900), none] [vI cv.2, vI 0, vR 900] p' s 0 0 _
    refine h_i2l (h_last ?_)
    refine h_goto (k' := k_332.drop 15) rfl (h_pure 1 (k' := k_332.drop 16) (lv' := [some (vR 0), some (vI a0), some (vI a1), some (vR 900), none]) (st' := [vI 0]) rfl (h_iret ?_))
    exact ⟨p', _, fun c hc h9 => (mu_ne h9).trans (h1 c hc), Or.inl ⟨c0, hRC.mu9 hn _, mu_self, rfl⟩⟩
  · rcases (show cv.1 = 1 ∨ cv.1 = 2 by omega) with e | e
    · rw [e, x1]
      show hL X 40 k_332 [(2, 15, 4), (4, 19, 4)] (k_332.drop 10) [some (vR 0), some (vI a0), some (vI a1), some (vR 900), none] [] p' s 1 6 _
      refine h_pure 1 (k' := k_332.drop 11) (lv' := [some (vR 0), some (vI a0), some (vI a1), some (vR 900), none]) (st' := [vI 1]) rfl (h_iret ?_)
      exact ⟨p', s, fun c hc _ => h1 c hc, Or.inr ⟨c0, hRC, by rw [e]; rfl⟩⟩
    · rw [e, x2]
      show hL X 40 k_332 [(2, 15, 4), (4, 19, 4)] (k_332.drop 13) [some (vR 0), some (vI a0), some (vI a1), some (vR 900), none] [] p' s 1 6 _
      refine h_pure 1 (k' := k_332.drop 14) (lv' := [some (vR 0), some (vI a0), some (vI a1), some (vR 900), none]) (st' := [vI 2]) rfl (h_iret ?_)
      exact ⟨p', s, fun c hc _ => h1 c hc, Or.inr ⟨c0, hRC, by rw [e]; rfl⟩⟩
/-- tell -/
theorem w_333 {X : Nat × (Nat → Int32)} {p : Nat → Nat} {sg : Mg} {Af As : AS} {ex : Nat → Nat} {cv : Nat × Int32} {a0 : Int32} {a1 : Int32} (hn : As.n ≤ 12) (hc : cv.1 ≤ 1) (x1 : ex 1 = 2) (h : gF X 40 157 [vR 0, vI a0, vI a1] p sg (cR Af As ex cv sg)) : gF X 41 333 [vR 0, vI a0, vI a1, vR 900] p sg (wR Af As cv b01 sg) := by
  refine h_in (cd := k_333) (nL := 5) (rc := 0) (hs := [(2, 22, 4)]) rfl trivial (g_c1 rfl) ?_
  show hL X 40 k_333 [(2, 22, 4)] k_333 [some (vR 0), some (vI a0), some (vI a1), some (vR 900), none] [] p sg 0 0 _
  refine h_pure 5 (k' := k_333.drop 5) (lv' := [some (vR 0), some (vI a0), some (vI a1), some (vR 900), none]) (st' := [vI a1, vI a0, vR 0, vI 0, vR 900]) rfl ?_
  refine h_calV (args := [vR 0, vI a0, vI a1]) (rest := [vI 0, vR 900]) rfl rfl (by decide) h (fun r hr => ?_)
  obtain ⟨p', s, h1, ⟨c0, hRC, rfl⟩ | ⟨c0, hRC, rfl⟩⟩ := hr
  · show hL X 40 k_333 [(2, 22, 4)] (k_333.drop 6) [some (vR 0), some (vI a0), some (vI a1), some (vR 900), none] [vI cv.2, vI 0, vR 900] p' s 0 0 _
    refine h_if1 (k' := k_333.drop 9) (P := cv.2 = 0) rfl Iff.rfl (fun hz => ?_) (fun hz => ?_)
    · refine h_lcst (h_last ?_)
      refine h_goto (k' := k_333.drop 15) rfl (h_pure 1 (k' := k_333.drop 16) (lv' := [some (vR 0), some (vI a0), some (vI a1), some (vR 900), none]) (st' := [vI 0]) rfl (h_iret ?_))
      exact ⟨p', _, fun c hc h9 => (mu_ne h9).trans (h1 c hc), Or.inl ⟨c0, hRC.mu9 hn _, by rw [mu_self]; exact (if_pos hz).symm, rfl⟩⟩
    · refine h_lcst (h_goto (k' := k_333.drop 10) rfl (h_last ?_))
      refine h_goto (k' := k_333.drop 15) rfl (h_pure 1 (k' := k_333.drop 16) (lv' := [some (vR 0), some (vI a0), some (vI a1), some (vR 900), none]) (st' := [vI 0]) rfl (h_iret ?_))
      exact ⟨p', _, fun c hc h9 => (mu_ne h9).trans (h1 c hc), Or.inl ⟨c0, hRC.mu9 hn _, by rw [mu_self]; exact (if_neg hz).symm, rfl⟩⟩
  · have e : cv.1 = 1 := by omega
    rw [e, x1]
    show hL X 40 k_333 [(2, 22, 4)] (k_333.drop 13) [some (vR 0), some (vI a0), some (vI a1), some (vR 900), none] [] p' s 1 6 _
    refine h_pure 1 (k' := k_333.drop 14) (lv' := [some (vR 0), some (vI a0), some (vI a1), some (vR 900), none]) (st' := [vI 1]) rfl (h_iret ?_)
    exact ⟨p', s, fun c hc _ => h1 c hc, Or.inr ⟨c0, hRC, by rw [e]; rfl⟩⟩
/-- dawns -/
theorem w_334 {X : Nat × (Nat → Int32)} {p : Nat → Nat} {sg : Mg} {Af As : AS} {ex : Nat → Nat} {cv : Nat × Int32} {a0 : Int32} (hn : As.n ≤ 12) (hc : cv.1 ≤ 1) (x1 : ex 1 = 0) (h : gF X 40 158 [vR 0, vI a0] p sg (cR Af As ex cv sg)) : gF X 41 334 [vR 0, vI a0, vR 900] p sg (wR Af As cv id sg) := by
  refine h_in (cd := k_334) (nL := 4) (rc := 0) (hs := [(0, 13, 3)]) rfl trivial (g_c1 rfl) ?_
  show hL X 40 k_334 [(0, 13, 3)] k_334 [some (vR 0), some (vI a0), some (vR 900), none] [] p sg 0 0 _
  refine h_pure 4 (k' := k_334.drop 4) (lv' := [some (vR 0), some (vI a0), some (vR 900), none]) (st' := [vI a0, vR 0, vI 0, vR 900]) rfl ?_
  refine h_calV (args := [vR 0, vI a0]) (rest := [vI 0, vR 900]) rfl rfl (by decide) h (fun r hr => ?_)
  obtain ⟨p', s, h1, ⟨c0, hRC, rfl⟩ | ⟨c0, hRC, rfl⟩⟩ := hr
  · show hL X 40 k_334 [(0, 13, 3)] (k_334.drop 5) [some (vR 0), some (vI a0), some (vR 900), none] [vI cv.2, vI 0, vR 900] p' s 0 0 _
    refine h_i2l (h_last ?_)
    refine h_goto (k' := k_334.drop 11) rfl (h_pure 1 (k' := k_334.drop 12) (lv' := [some (vR 0), some (vI a0), some (vR 900), none]) (st' := [vI 0]) rfl (h_iret ?_))
    exact ⟨p', _, fun c hc h9 => (mu_ne h9).trans (h1 c hc), Or.inl ⟨c0, hRC.mu9 hn _, mu_self, rfl⟩⟩
  · have e : cv.1 = 1 := by omega
    rw [e, x1]
    show hL X 40 k_334 [(0, 13, 3)] (k_334.drop 9) [some (vR 0), some (vI a0), some (vR 900), none] [] p' s 1 6 _
    refine h_pure 1 (k' := k_334.drop 10) (lv' := [some (vR 0), some (vI a0), some (vR 900), none]) (st' := [vI 1]) rfl (h_iret ?_)
    exact ⟨p', s, fun c hc _ => h1 c hc, Or.inr ⟨c0, hRC, by rw [e]; rfl⟩⟩
/-- soonest -/
theorem w_335 {X : Nat × (Nat → Int32)} {p : Nat → Nat} {sg : Mg} {Af As : AS} {ex : Nat → Nat} {cv : Nat × Int32} {a0 : Int32} {a1 : Int32} {a2 : Int32} (hn : As.n ≤ 12) (hc : cv.1 ≤ 1) (x1 : ex 1 = 2) (h : gF X 40 159 [vR 0, vI a0, vI a1, vI a2] p sg (cR Af As ex cv sg)) : gF X 41 335 [vR 0, vI a0, vI a1, vI a2, vR 900] p sg (wR Af As cv id sg) := by
  refine h_in (cd := k_335) (nL := 6) (rc := 0) (hs := [(2, 17, 5)]) rfl trivial (g_c1 rfl) ?_
  show hL X 40 k_335 [(2, 17, 5)] k_335 [some (vR 0), some (vI a0), some (vI a1), some (vI a2), some (vR 900), none] [] p sg 0 0 _
  refine h_pure 6 (k' := k_335.drop 6) (lv' := [some (vR 0), some (vI a0), some (vI a1), some (vI a2), some (vR 900), none]) (st' := [vI a2, vI a1, vI a0, vR 0, vI 0, vR 900]) rfl ?_
  refine h_calV (args := [vR 0, vI a0, vI a1, vI a2]) (rest := [vI 0, vR 900]) rfl rfl (by decide) h (fun r hr => ?_)
  obtain ⟨p', s, h1, ⟨c0, hRC, rfl⟩ | ⟨c0, hRC, rfl⟩⟩ := hr
  · show hL X 40 k_335 [(2, 17, 5)] (k_335.drop 7) [some (vR 0), some (vI a0), some (vI a1), some (vI a2), some (vR 900), none] [vI cv.2, vI 0, vR 900] p' s 0 0 _
    refine h_i2l (h_last ?_)
    refine h_goto (k' := k_335.drop 13) rfl (h_pure 1 (k' := k_335.drop 14) (lv' := [some (vR 0), some (vI a0), some (vI a1), some (vI a2), some (vR 900), none]) (st' := [vI 0]) rfl (h_iret ?_))
    exact ⟨p', _, fun c hc h9 => (mu_ne h9).trans (h1 c hc), Or.inl ⟨c0, hRC.mu9 hn _, mu_self, rfl⟩⟩
  · have e : cv.1 = 1 := by omega
    rw [e, x1]
    show hL X 40 k_335 [(2, 17, 5)] (k_335.drop 11) [some (vR 0), some (vI a0), some (vI a1), some (vI a2), some (vR 900), none] [] p' s 1 6 _
    refine h_pure 1 (k' := k_335.drop 12) (lv' := [some (vR 0), some (vI a0), some (vI a1), some (vI a2), some (vR 900), none]) (st' := [vI 1]) rfl (h_iret ?_)
    exact ⟨p', s, fun c hc _ => h1 c hc, Or.inr ⟨c0, hRC, by rw [e]; rfl⟩⟩
/-- first -/
theorem w_336 {X : Nat × (Nat → Int32)} {p : Nat → Nat} {sg : Mg} {Af As : AS} {ex : Nat → Nat} {cv : Nat × Int32} {a0 : Int32} {a1 : Int32} {a2 : Int32} (hn : As.n ≤ 12) (hc : cv.1 ≤ 1) (x1 : ex 1 = 2) (h : gF X 40 161 [vR 0, vI a0, vI a1, vI a2] p sg (cR Af As ex cv sg)) : gF X 41 336 [vR 0, vI a0, vI a1, vI a2, vR 900] p sg (wR Af As cv id sg) := by
  refine h_in (cd := k_336) (nL := 6) (rc := 0) (hs := [(2, 17, 5)]) rfl trivial (g_c1 rfl) ?_
  show hL X 40 k_336 [(2, 17, 5)] k_336 [some (vR 0), some (vI a0), some (vI a1), some (vI a2), some (vR 900), none] [] p sg 0 0 _
  refine h_pure 6 (k' := k_336.drop 6) (lv' := [some (vR 0), some (vI a0), some (vI a1), some (vI a2), some (vR 900), none]) (st' := [vI a2, vI a1, vI a0, vR 0, vI 0, vR 900]) rfl ?_
  refine h_calV (args := [vR 0, vI a0, vI a1, vI a2]) (rest := [vI 0, vR 900]) rfl rfl (by decide) h (fun r hr => ?_)
  obtain ⟨p', s, h1, ⟨c0, hRC, rfl⟩ | ⟨c0, hRC, rfl⟩⟩ := hr
  · show hL X 40 k_336 [(2, 17, 5)] (k_336.drop 7) [some (vR 0), some (vI a0), some (vI a1), some (vI a2), some (vR 900), none] [vI cv.2, vI 0, vR 900] p' s 0 0 _
    refine h_i2l (h_last ?_)
    refine h_goto (k' := k_336.drop 13) rfl (h_pure 1 (k' := k_336.drop 14) (lv' := [some (vR 0), some (vI a0), some (vI a1), some (vI a2), some (vR 900), none]) (st' := [vI 0]) rfl (h_iret ?_))
    exact ⟨p', _, fun c hc h9 => (mu_ne h9).trans (h1 c hc), Or.inl ⟨c0, hRC.mu9 hn _, mu_self, rfl⟩⟩
  · have e : cv.1 = 1 := by omega
    rw [e, x1]
    show hL X 40 k_336 [(2, 17, 5)] (k_336.drop 11) [some (vR 0), some (vI a0), some (vI a1), some (vI a2), some (vR 900), none] [] p' s 1 6 _
    refine h_pure 1 (k' := k_336.drop 12) (lv' := [some (vR 0), some (vI a0), some (vI a1), some (vI a2), some (vR 900), none]) (st' := [vI 1]) rfl (h_iret ?_)
    exact ⟨p', s, fun c hc _ => h1 c hc, Or.inr ⟨c0, hRC, by rw [e]; rfl⟩⟩
/-- meeting -/
theorem w_337 {X : Nat × (Nat → Int32)} {p : Nat → Nat} {sg : Mg} {Af As : AS} {ex : Nat → Nat} {cv : Nat × Int32} {a0 : Int32} {a1 : Int32} {a2 : Int32} (hn : As.n ≤ 12) (hc : cv.1 ≤ 2) (x1 : ex 1 = 2) (x2 : ex 2 = 0) (h : gF X 40 162 [vR 0, vI a0, vI a1, vI a2] p sg (cR Af As ex cv sg)) : gF X 41 337 [vR 0, vI a0, vI a1, vI a2, vR 900] p sg (wR Af As cv id sg) := by
  refine h_in (cd := k_337) (nL := 6) (rc := 0) (hs := [(2, 17, 5), (0, 21, 5)]) rfl trivial (g_c1 rfl) ?_
  show hL X 40 k_337 [(2, 17, 5), (0, 21, 5)] k_337 [some (vR 0), some (vI a0), some (vI a1), some (vI a2), some (vR 900), none] [] p sg 0 0 _
  refine h_pure 6 (k' := k_337.drop 6) (lv' := [some (vR 0), some (vI a0), some (vI a1), some (vI a2), some (vR 900), none]) (st' := [vI a2, vI a1, vI a0, vR 0, vI 0, vR 900]) rfl ?_
  refine h_calV (args := [vR 0, vI a0, vI a1, vI a2]) (rest := [vI 0, vR 900]) rfl rfl (by decide) h (fun r hr => ?_)
  obtain ⟨p', s, h1, ⟨c0, hRC, rfl⟩ | ⟨c0, hRC, rfl⟩⟩ := hr
  · show hL X 40 k_337 [(2, 17, 5), (0, 21, 5)] (k_337.drop 7) [some (vR 0), some (vI a0), some (vI a1), some (vI a2), some (vR 900), none] [vI cv.2, vI 0, vR 900] p' s 0 0 _
    refine h_i2l (h_last ?_)
    refine h_goto (k' := k_337.drop 16) rfl (h_pure 1 (k' := k_337.drop 17) (lv' := [some (vR 0), some (vI a0), some (vI a1), some (vI a2), some (vR 900), none]) (st' := [vI 0]) rfl (h_iret ?_))
    exact ⟨p', _, fun c hc h9 => (mu_ne h9).trans (h1 c hc), Or.inl ⟨c0, hRC.mu9 hn _, mu_self, rfl⟩⟩
  · rcases (show cv.1 = 1 ∨ cv.1 = 2 by omega) with e | e
    · rw [e, x1]
      show hL X 40 k_337 [(2, 17, 5), (0, 21, 5)] (k_337.drop 11) [some (vR 0), some (vI a0), some (vI a1), some (vI a2), some (vR 900), none] [] p' s 1 6 _
      refine h_pure 1 (k' := k_337.drop 12) (lv' := [some (vR 0), some (vI a0), some (vI a1), some (vI a2), some (vR 900), none]) (st' := [vI 1]) rfl (h_iret ?_)
      exact ⟨p', s, fun c hc _ => h1 c hc, Or.inr ⟨c0, hRC, by rw [e]; rfl⟩⟩
    · rw [e, x2]
      show hL X 40 k_337 [(2, 17, 5), (0, 21, 5)] (k_337.drop 14) [some (vR 0), some (vI a0), some (vI a1), some (vI a2), some (vR 900), none] [] p' s 1 6 _
      refine h_pure 1 (k' := k_337.drop 15) (lv' := [some (vR 0), some (vI a0), some (vI a1), some (vI a2), some (vR 900), none]) (st' := [vI 2]) rfl (h_iret ?_)
      exact ⟨p', s, fun c hc _ => h1 c hc, Or.inr ⟨c0, hRC, by rw [e]; rfl⟩⟩
/-- cone -/
theorem w_338 {X : Nat × (Nat → Int32)} {p : Nat → Nat} {sg : Mg} {Af As : AS} {ex : Nat → Nat} {cv : Nat × Int32} {a0 : Int32} {a1 : Int32} (hn : As.n ≤ 12) (hc : cv.1 ≤ 2) (x1 : ex 1 = 2) (x2 : ex 2 = 0) (h : gF X 40 163 [vR 0, vI a0, vI a1] p sg (cR Af As ex cv sg)) : gF X 41 338 [vR 0, vI a0, vI a1, vR 900] p sg (wR Af As cv id sg) := by
  refine h_in (cd := k_338) (nL := 5) (rc := 0) (hs := [(2, 15, 4), (0, 19, 4)]) rfl trivial (g_c1 rfl) ?_
  show hL X 40 k_338 [(2, 15, 4), (0, 19, 4)] k_338 [some (vR 0), some (vI a0), some (vI a1), some (vR 900), none] [] p sg 0 0 _
  refine h_pure 5 (k' := k_338.drop 5) (lv' := [some (vR 0), some (vI a0), some (vI a1), some (vR 900), none]) (st' := [vI a1, vI a0, vR 0, vI 0, vR 900]) rfl ?_
  refine h_calV (args := [vR 0, vI a0, vI a1]) (rest := [vI 0, vR 900]) rfl rfl (by decide) h (fun r hr => ?_)
  obtain ⟨p', s, h1, ⟨c0, hRC, rfl⟩ | ⟨c0, hRC, rfl⟩⟩ := hr
  · show hL X 40 k_338 [(2, 15, 4), (0, 19, 4)] (k_338.drop 6) [some (vR 0), some (vI a0), some (vI a1), some (vR 900), none] [vI cv.2, vI 0, vR 900] p' s 0 0 _
    refine h_i2l (h_last ?_)
    refine h_goto (k' := k_338.drop 15) rfl (h_pure 1 (k' := k_338.drop 16) (lv' := [some (vR 0), some (vI a0), some (vI a1), some (vR 900), none]) (st' := [vI 0]) rfl (h_iret ?_))
    exact ⟨p', _, fun c hc h9 => (mu_ne h9).trans (h1 c hc), Or.inl ⟨c0, hRC.mu9 hn _, mu_self, rfl⟩⟩
  · rcases (show cv.1 = 1 ∨ cv.1 = 2 by omega) with e | e
    · rw [e, x1]
      show hL X 40 k_338 [(2, 15, 4), (0, 19, 4)] (k_338.drop 10) [some (vR 0), some (vI a0), some (vI a1), some (vR 900), none] [] p' s 1 6 _
      refine h_pure 1 (k' := k_338.drop 11) (lv' := [some (vR 0), some (vI a0), some (vI a1), some (vR 900), none]) (st' := [vI 1]) rfl (h_iret ?_)
      exact ⟨p', s, fun c hc _ => h1 c hc, Or.inr ⟨c0, hRC, by rw [e]; rfl⟩⟩
    · rw [e, x2]
      show hL X 40 k_338 [(2, 15, 4), (0, 19, 4)] (k_338.drop 13) [some (vR 0), some (vI a0), some (vI a1), some (vR 900), none] [] p' s 1 6 _
      refine h_pure 1 (k' := k_338.drop 14) (lv' := [some (vR 0), some (vI a0), some (vI a1), some (vR 900), none]) (st' := [vI 2]) rfl (h_iret ?_)
      exact ⟨p', s, fun c hc _ => h1 c hc, Or.inr ⟨c0, hRC, by rw [e]; rfl⟩⟩
/-- warned -/
theorem w_339 {X : Nat × (Nat → Int32)} {p : Nat → Nat} {sg : Mg} {Af As : AS} {ex : Nat → Nat} {cv : Nat × Int32} {a0 : Int32} {a1 : Int32} (hn : As.n ≤ 12) (hc : cv.1 ≤ 2) (x1 : ex 1 = 2) (x2 : ex 2 = 0) (h : gF X 40 164 [vR 0, vI a0, vI a1] p sg (cR Af As ex cv sg)) : gF X 41 339 [vR 0, vI a0, vI a1, vR 900] p sg (wR Af As cv id sg) := by
  refine h_in (cd := k_339) (nL := 5) (rc := 0) (hs := [(2, 15, 4), (0, 19, 4)]) rfl trivial (g_c1 rfl) ?_
  show hL X 40 k_339 [(2, 15, 4), (0, 19, 4)] k_339 [some (vR 0), some (vI a0), some (vI a1), some (vR 900), none] [] p sg 0 0 _
  refine h_pure 5 (k' := k_339.drop 5) (lv' := [some (vR 0), some (vI a0), some (vI a1), some (vR 900), none]) (st' := [vI a1, vI a0, vR 0, vI 0, vR 900]) rfl ?_
  refine h_calV (args := [vR 0, vI a0, vI a1]) (rest := [vI 0, vR 900]) rfl rfl (by decide) h (fun r hr => ?_)
  obtain ⟨p', s, h1, ⟨c0, hRC, rfl⟩ | ⟨c0, hRC, rfl⟩⟩ := hr
  · show hL X 40 k_339 [(2, 15, 4), (0, 19, 4)] (k_339.drop 6) [some (vR 0), some (vI a0), some (vI a1), some (vR 900), none] [vI cv.2, vI 0, vR 900] p' s 0 0 _
    refine h_i2l (h_last ?_)
    refine h_goto (k' := k_339.drop 15) rfl (h_pure 1 (k' := k_339.drop 16) (lv' := [some (vR 0), some (vI a0), some (vI a1), some (vR 900), none]) (st' := [vI 0]) rfl (h_iret ?_))
    exact ⟨p', _, fun c hc h9 => (mu_ne h9).trans (h1 c hc), Or.inl ⟨c0, hRC.mu9 hn _, mu_self, rfl⟩⟩
  · rcases (show cv.1 = 1 ∨ cv.1 = 2 by omega) with e | e
    · rw [e, x1]
      show hL X 40 k_339 [(2, 15, 4), (0, 19, 4)] (k_339.drop 10) [some (vR 0), some (vI a0), some (vI a1), some (vR 900), none] [] p' s 1 6 _
      refine h_pure 1 (k' := k_339.drop 11) (lv' := [some (vR 0), some (vI a0), some (vI a1), some (vR 900), none]) (st' := [vI 1]) rfl (h_iret ?_)
      exact ⟨p', s, fun c hc _ => h1 c hc, Or.inr ⟨c0, hRC, by rw [e]; rfl⟩⟩
    · rw [e, x2]
      show hL X 40 k_339 [(2, 15, 4), (0, 19, 4)] (k_339.drop 13) [some (vR 0), some (vI a0), some (vI a1), some (vR 900), none] [] p' s 1 6 _
      refine h_pure 1 (k' := k_339.drop 14) (lv' := [some (vR 0), some (vI a0), some (vI a1), some (vR 900), none]) (st' := [vI 2]) rfl (h_iret ?_)
      exact ⟨p', s, fun c hc _ => h1 c hc, Or.inr ⟨c0, hRC, by rw [e]; rfl⟩⟩
/-- least -/
theorem w_340 {X : Nat × (Nat → Int32)} {p : Nat → Nat} {sg : Mg} {Af As : AS} {ex : Nat → Nat} {cv : Nat × Int32} {a0 : Int32} (hn : As.n ≤ 12) (hc : cv.1 ≤ 1) (x1 : ex 1 = 0) (h : gF X 40 165 [vR 0, vI a0] p sg (cR Af As ex cv sg)) : gF X 41 340 [vR 0, vI a0, vR 900] p sg (wR Af As cv id sg) := by
  refine h_in (cd := k_340) (nL := 4) (rc := 0) (hs := [(0, 13, 3)]) rfl trivial (g_c1 rfl) ?_
  show hL X 40 k_340 [(0, 13, 3)] k_340 [some (vR 0), some (vI a0), some (vR 900), none] [] p sg 0 0 _
  refine h_pure 4 (k' := k_340.drop 4) (lv' := [some (vR 0), some (vI a0), some (vR 900), none]) (st' := [vI a0, vR 0, vI 0, vR 900]) rfl ?_
  refine h_calV (args := [vR 0, vI a0]) (rest := [vI 0, vR 900]) rfl rfl (by decide) h (fun r hr => ?_)
  obtain ⟨p', s, h1, ⟨c0, hRC, rfl⟩ | ⟨c0, hRC, rfl⟩⟩ := hr
  · show hL X 40 k_340 [(0, 13, 3)] (k_340.drop 5) [some (vR 0), some (vI a0), some (vR 900), none] [vI cv.2, vI 0, vR 900] p' s 0 0 _
    refine h_i2l (h_last ?_)
    refine h_goto (k' := k_340.drop 11) rfl (h_pure 1 (k' := k_340.drop 12) (lv' := [some (vR 0), some (vI a0), some (vR 900), none]) (st' := [vI 0]) rfl (h_iret ?_))
    exact ⟨p', _, fun c hc h9 => (mu_ne h9).trans (h1 c hc), Or.inl ⟨c0, hRC.mu9 hn _, mu_self, rfl⟩⟩
  · have e : cv.1 = 1 := by omega
    rw [e, x1]
    show hL X 40 k_340 [(0, 13, 3)] (k_340.drop 9) [some (vR 0), some (vI a0), some (vR 900), none] [] p' s 1 6 _
    refine h_pure 1 (k' := k_340.drop 10) (lv' := [some (vR 0), some (vI a0), some (vR 900), none]) (st' := [vI 1]) rfl (h_iret ?_)
    exact ⟨p', s, fun c hc _ => h1 c hc, Or.inr ⟨c0, hRC, by rw [e]; rfl⟩⟩
/-- knew -/
theorem w_341 {X : Nat × (Nat → Int32)} {p : Nat → Nat} {sg : Mg} {Af As : AS} {ex : Nat → Nat} {cv : Nat × Int32} {a0 : Int32} {a1 : Int32} (hn : As.n ≤ 12) (hc : cv.1 ≤ 2) (x1 : ex 1 = 2) (x2 : ex 2 = 0) (h : gF X 40 166 [vR 0, vI a0, vI a1] p sg (cR Af As ex cv sg)) : gF X 41 341 [vR 0, vI a0, vI a1, vR 900] p sg (wR Af As cv id sg) := by
  refine h_in (cd := k_341) (nL := 5) (rc := 0) (hs := [(2, 15, 4), (0, 19, 4)]) rfl trivial (g_c1 rfl) ?_
  show hL X 40 k_341 [(2, 15, 4), (0, 19, 4)] k_341 [some (vR 0), some (vI a0), some (vI a1), some (vR 900), none] [] p sg 0 0 _
  refine h_pure 5 (k' := k_341.drop 5) (lv' := [some (vR 0), some (vI a0), some (vI a1), some (vR 900), none]) (st' := [vI a1, vI a0, vR 0, vI 0, vR 900]) rfl ?_
  refine h_calV (args := [vR 0, vI a0, vI a1]) (rest := [vI 0, vR 900]) rfl rfl (by decide) h (fun r hr => ?_)
  obtain ⟨p', s, h1, ⟨c0, hRC, rfl⟩ | ⟨c0, hRC, rfl⟩⟩ := hr
  · show hL X 40 k_341 [(2, 15, 4), (0, 19, 4)] (k_341.drop 6) [some (vR 0), some (vI a0), some (vI a1), some (vR 900), none] [vI cv.2, vI 0, vR 900] p' s 0 0 _
    refine h_i2l (h_last ?_)
    refine h_goto (k' := k_341.drop 15) rfl (h_pure 1 (k' := k_341.drop 16) (lv' := [some (vR 0), some (vI a0), some (vI a1), some (vR 900), none]) (st' := [vI 0]) rfl (h_iret ?_))
    exact ⟨p', _, fun c hc h9 => (mu_ne h9).trans (h1 c hc), Or.inl ⟨c0, hRC.mu9 hn _, mu_self, rfl⟩⟩
  · rcases (show cv.1 = 1 ∨ cv.1 = 2 by omega) with e | e
    · rw [e, x1]
      show hL X 40 k_341 [(2, 15, 4), (0, 19, 4)] (k_341.drop 10) [some (vR 0), some (vI a0), some (vI a1), some (vR 900), none] [] p' s 1 6 _
      refine h_pure 1 (k' := k_341.drop 11) (lv' := [some (vR 0), some (vI a0), some (vI a1), some (vR 900), none]) (st' := [vI 1]) rfl (h_iret ?_)
      exact ⟨p', s, fun c hc _ => h1 c hc, Or.inr ⟨c0, hRC, by rw [e]; rfl⟩⟩
    · rw [e, x2]
      show hL X 40 k_341 [(2, 15, 4), (0, 19, 4)] (k_341.drop 13) [some (vR 0), some (vI a0), some (vI a1), some (vR 900), none] [] p' s 1 6 _
      refine h_pure 1 (k' := k_341.drop 14) (lv' := [some (vR 0), some (vI a0), some (vI a1), some (vR 900), none]) (st' := [vI 2]) rfl (h_iret ?_)
      exact ⟨p', s, fun c hc _ => h1 c hc, Or.inr ⟨c0, hRC, by rw [e]; rfl⟩⟩
/-- alike -/
theorem w_342 {X : Nat × (Nat → Int32)} {p : Nat → Nat} {sg : Mg} {Af As : AS} {ex : Nat → Nat} {cv : Nat × Int32} {a0 : Int32} {a1 : Int32} {a2 : Int32} (hn : As.n ≤ 12) (hc : cv.1 ≤ 1) (x1 : ex 1 = 2) (h : gF X 40 167 [vR 0, vI a0, vI a1, vI a2] p sg (cR Af As ex cv sg)) : gF X 41 342 [vR 0, vI a0, vI a1, vI a2, vR 900] p sg (wR Af As cv id sg) := by
  refine h_in (cd := k_342) (nL := 6) (rc := 0) (hs := [(2, 17, 5)]) rfl trivial (g_c1 rfl) ?_
  show hL X 40 k_342 [(2, 17, 5)] k_342 [some (vR 0), some (vI a0), some (vI a1), some (vI a2), some (vR 900), none] [] p sg 0 0 _
  refine h_pure 6 (k' := k_342.drop 6) (lv' := [some (vR 0), some (vI a0), some (vI a1), some (vI a2), some (vR 900), none]) (st' := [vI a2, vI a1, vI a0, vR 0, vI 0, vR 900]) rfl ?_
  refine h_calV (args := [vR 0, vI a0, vI a1, vI a2]) (rest := [vI 0, vR 900]) rfl rfl (by decide) h (fun r hr => ?_)
  obtain ⟨p', s, h1, ⟨c0, hRC, rfl⟩ | ⟨c0, hRC, rfl⟩⟩ := hr
  · show hL X 40 k_342 [(2, 17, 5)] (k_342.drop 7) [some (vR 0), some (vI a0), some (vI a1), some (vI a2), some (vR 900), none] [vI cv.2, vI 0, vR 900] p' s 0 0 _
    refine h_i2l (h_last ?_)
    refine h_goto (k' := k_342.drop 13) rfl (h_pure 1 (k' := k_342.drop 14) (lv' := [some (vR 0), some (vI a0), some (vI a1), some (vI a2), some (vR 900), none]) (st' := [vI 0]) rfl (h_iret ?_))
    exact ⟨p', _, fun c hc h9 => (mu_ne h9).trans (h1 c hc), Or.inl ⟨c0, hRC.mu9 hn _, mu_self, rfl⟩⟩
  · have e : cv.1 = 1 := by omega
    rw [e, x1]
    show hL X 40 k_342 [(2, 17, 5)] (k_342.drop 11) [some (vR 0), some (vI a0), some (vI a1), some (vI a2), some (vR 900), none] [] p' s 1 6 _
    refine h_pure 1 (k' := k_342.drop 12) (lv' := [some (vR 0), some (vI a0), some (vI a1), some (vI a2), some (vR 900), none]) (st' := [vI 1]) rfl (h_iret ?_)
    exact ⟨p', s, fun c hc _ => h1 c hc, Or.inr ⟨c0, hRC, by rw [e]; rfl⟩⟩
/-- touch -/
theorem w_343 {X : Nat × (Nat → Int32)} {p : Nat → Nat} {sg : Mg} {Af As : AS} {ex : Nat → Nat} {cv : Nat × Int32} {a0 : Int32} {a1 : Int32} {a2 : Int32} (hn : As.n ≤ 12) (hc : cv.1 ≤ 2) (x1 : ex 1 = 2) (x2 : ex 2 = 0) (h : gF X 40 168 [vR 0, vI a0, vI a1, vI a2] p sg (cR Af As ex cv sg)) : gF X 41 343 [vR 0, vI a0, vI a1, vI a2, vR 900] p sg (wR Af As cv id sg) := by
  refine h_in (cd := k_343) (nL := 6) (rc := 0) (hs := [(2, 17, 5), (0, 21, 5)]) rfl trivial (g_c1 rfl) ?_
  show hL X 40 k_343 [(2, 17, 5), (0, 21, 5)] k_343 [some (vR 0), some (vI a0), some (vI a1), some (vI a2), some (vR 900), none] [] p sg 0 0 _
  refine h_pure 6 (k' := k_343.drop 6) (lv' := [some (vR 0), some (vI a0), some (vI a1), some (vI a2), some (vR 900), none]) (st' := [vI a2, vI a1, vI a0, vR 0, vI 0, vR 900]) rfl ?_
  refine h_calV (args := [vR 0, vI a0, vI a1, vI a2]) (rest := [vI 0, vR 900]) rfl rfl (by decide) h (fun r hr => ?_)
  obtain ⟨p', s, h1, ⟨c0, hRC, rfl⟩ | ⟨c0, hRC, rfl⟩⟩ := hr
  · show hL X 40 k_343 [(2, 17, 5), (0, 21, 5)] (k_343.drop 7) [some (vR 0), some (vI a0), some (vI a1), some (vI a2), some (vR 900), none] [vI cv.2, vI 0, vR 900] p' s 0 0 _
    refine h_i2l (h_last ?_)
    refine h_goto (k' := k_343.drop 16) rfl (h_pure 1 (k' := k_343.drop 17) (lv' := [some (vR 0), some (vI a0), some (vI a1), some (vI a2), some (vR 900), none]) (st' := [vI 0]) rfl (h_iret ?_))
    exact ⟨p', _, fun c hc h9 => (mu_ne h9).trans (h1 c hc), Or.inl ⟨c0, hRC.mu9 hn _, mu_self, rfl⟩⟩
  · rcases (show cv.1 = 1 ∨ cv.1 = 2 by omega) with e | e
    · rw [e, x1]
      show hL X 40 k_343 [(2, 17, 5), (0, 21, 5)] (k_343.drop 11) [some (vR 0), some (vI a0), some (vI a1), some (vI a2), some (vR 900), none] [] p' s 1 6 _
      refine h_pure 1 (k' := k_343.drop 12) (lv' := [some (vR 0), some (vI a0), some (vI a1), some (vI a2), some (vR 900), none]) (st' := [vI 1]) rfl (h_iret ?_)
      exact ⟨p', s, fun c hc _ => h1 c hc, Or.inr ⟨c0, hRC, by rw [e]; rfl⟩⟩
    · rw [e, x2]
      show hL X 40 k_343 [(2, 17, 5), (0, 21, 5)] (k_343.drop 14) [some (vR 0), some (vI a0), some (vI a1), some (vI a2), some (vR 900), none] [] p' s 1 6 _
      refine h_pure 1 (k' := k_343.drop 15) (lv' := [some (vR 0), some (vI a0), some (vI a1), some (vI a2), some (vR 900), none]) (st' := [vI 2]) rfl (h_iret ?_)
      exact ⟨p', s, fun c hc _ => h1 c hc, Or.inr ⟨c0, hRC, by rw [e]; rfl⟩⟩
/-- round -/
theorem w_344 {X : Nat × (Nat → Int32)} {p : Nat → Nat} {sg : Mg} {Af As : AS} {ex : Nat → Nat} {cv : Nat × Int32} {a0 : Int32} {a1 : Int32} (hn : As.n ≤ 12) (hc : cv.1 ≤ 2) (x1 : ex 1 = 2) (x2 : ex 2 = 0) (h : gF X 40 169 [vR 0, vI a0, vI a1] p sg (cR Af As ex cv sg)) : gF X 41 344 [vR 0, vI a0, vI a1, vR 900] p sg (wR Af As cv id sg) := by
  refine h_in (cd := k_344) (nL := 5) (rc := 0) (hs := [(2, 15, 4), (0, 19, 4)]) rfl trivial (g_c1 rfl) ?_
  show hL X 40 k_344 [(2, 15, 4), (0, 19, 4)] k_344 [some (vR 0), some (vI a0), some (vI a1), some (vR 900), none] [] p sg 0 0 _
  refine h_pure 5 (k' := k_344.drop 5) (lv' := [some (vR 0), some (vI a0), some (vI a1), some (vR 900), none]) (st' := [vI a1, vI a0, vR 0, vI 0, vR 900]) rfl ?_
  refine h_calV (args := [vR 0, vI a0, vI a1]) (rest := [vI 0, vR 900]) rfl rfl (by decide) h (fun r hr => ?_)
  obtain ⟨p', s, h1, ⟨c0, hRC, rfl⟩ | ⟨c0, hRC, rfl⟩⟩ := hr
  · show hL X 40 k_344 [(2, 15, 4), (0, 19, 4)] (k_344.drop 6) [some (vR 0), some (vI a0), some (vI a1), some (vR 900), none] [vI cv.2, vI 0, vR 900] p' s 0 0 _
    refine h_i2l (h_last ?_)
    refine h_goto (k' := k_344.drop 15) rfl (h_pure 1 (k' := k_344.drop 16) (lv' := [some (vR 0), some (vI a0), some (vI a1), some (vR 900), none]) (st' := [vI 0]) rfl (h_iret ?_))
    exact ⟨p', _, fun c hc h9 => (mu_ne h9).trans (h1 c hc), Or.inl ⟨c0, hRC.mu9 hn _, mu_self, rfl⟩⟩
  · rcases (show cv.1 = 1 ∨ cv.1 = 2 by omega) with e | e
    · rw [e, x1]
      show hL X 40 k_344 [(2, 15, 4), (0, 19, 4)] (k_344.drop 10) [some (vR 0), some (vI a0), some (vI a1), some (vR 900), none] [] p' s 1 6 _
      refine h_pure 1 (k' := k_344.drop 11) (lv' := [some (vR 0), some (vI a0), some (vI a1), some (vR 900), none]) (st' := [vI 1]) rfl (h_iret ?_)
      exact ⟨p', s, fun c hc _ => h1 c hc, Or.inr ⟨c0, hRC, by rw [e]; rfl⟩⟩
    · rw [e, x2]
      show hL X 40 k_344 [(2, 15, 4), (0, 19, 4)] (k_344.drop 13) [some (vR 0), some (vI a0), some (vI a1), some (vR 900), none] [] p' s 1 6 _
      refine h_pure 1 (k' := k_344.drop 14) (lv' := [some (vR 0), some (vI a0), some (vI a1), some (vR 900), none]) (st' := [vI 2]) rfl (h_iret ?_)
      exact ⟨p', s, fun c hc _ => h1 c hc, Or.inr ⟨c0, hRC, by rw [e]; rfl⟩⟩
/-- bread -/
theorem w_345 {X : Nat × (Nat → Int32)} {p : Nat → Nat} {sg : Mg} {Af As : AS} {ex : Nat → Nat} {cv : Nat × Int32} (hn : As.n ≤ 12) (hc : cv.1 ≤ 1) (x1 : ex 1 = 0) (h : gF X 40 170 [vR 0] p sg (cR Af As ex cv sg)) : gF X 41 345 [vR 0, vR 900] p sg (wR Af As cv id sg) := by
  refine h_in (cd := k_345) (nL := 3) (rc := 0) (hs := [(0, 12, 2)]) rfl trivial (g_c1 rfl) ?_
  show hL X 40 k_345 [(0, 12, 2)] k_345 [some (vR 0), some (vR 900), none] [] p sg 0 0 _
  refine h_pure 3 (k' := k_345.drop 3) (lv' := [some (vR 0), some (vR 900), none]) (st' := [vR 0, vI 0, vR 900]) rfl ?_
  refine h_calV (args := [vR 0]) (rest := [vI 0, vR 900]) rfl rfl (by decide) h (fun r hr => ?_)
  obtain ⟨p', s, h1, ⟨c0, hRC, rfl⟩ | ⟨c0, hRC, rfl⟩⟩ := hr
  · show hL X 40 k_345 [(0, 12, 2)] (k_345.drop 4) [some (vR 0), some (vR 900), none] [vI cv.2, vI 0, vR 900] p' s 0 0 _
    refine h_i2l (h_last ?_)
    refine h_goto (k' := k_345.drop 10) rfl (h_pure 1 (k' := k_345.drop 11) (lv' := [some (vR 0), some (vR 900), none]) (st' := [vI 0]) rfl (h_iret ?_))
    exact ⟨p', _, fun c hc h9 => (mu_ne h9).trans (h1 c hc), Or.inl ⟨c0, hRC.mu9 hn _, mu_self, rfl⟩⟩
  · have e : cv.1 = 1 := by omega
    rw [e, x1]
    show hL X 40 k_345 [(0, 12, 2)] (k_345.drop 8) [some (vR 0), some (vR 900), none] [] p' s 1 6 _
    refine h_pure 1 (k' := k_345.drop 9) (lv' := [some (vR 0), some (vR 900), none]) (st' := [vI 1]) rfl (h_iret ?_)
    exact ⟨p', s, fun c hc _ => h1 c hc, Or.inr ⟨c0, hRC, by rw [e]; rfl⟩⟩
/-- tables -/
theorem w_346 {X : Nat × (Nat → Int32)} {p : Nat → Nat} {sg : Mg} {Af As : AS} {ex : Nat → Nat} {cv : Nat × Int32} (hn : As.n ≤ 12) (hc : cv.1 ≤ 1) (x1 : ex 1 = 0) (h : gF X 40 172 [vR 0] p sg (cR Af As ex cv sg)) : gF X 41 346 [vR 0, vR 900] p sg (wR Af As cv id sg) := by
  refine h_in (cd := k_346) (nL := 3) (rc := 0) (hs := [(0, 12, 2)]) rfl trivial (g_c1 rfl) ?_
  show hL X 40 k_346 [(0, 12, 2)] k_346 [some (vR 0), some (vR 900), none] [] p sg 0 0 _
  refine h_pure 3 (k' := k_346.drop 3) (lv' := [some (vR 0), some (vR 900), none]) (st' := [vR 0, vI 0, vR 900]) rfl ?_
  refine h_calV (args := [vR 0]) (rest := [vI 0, vR 900]) rfl rfl (by decide) h (fun r hr => ?_)
  obtain ⟨p', s, h1, ⟨c0, hRC, rfl⟩ | ⟨c0, hRC, rfl⟩⟩ := hr
  · show hL X 40 k_346 [(0, 12, 2)] (k_346.drop 4) [some (vR 0), some (vR 900), none] [vI cv.2, vI 0, vR 900] p' s 0 0 _
    refine h_i2l (h_last ?_)
    refine h_goto (k' := k_346.drop 10) rfl (h_pure 1 (k' := k_346.drop 11) (lv' := [some (vR 0), some (vR 900), none]) (st' := [vI 0]) rfl (h_iret ?_))
    exact ⟨p', _, fun c hc h9 => (mu_ne h9).trans (h1 c hc), Or.inl ⟨c0, hRC.mu9 hn _, mu_self, rfl⟩⟩
  · have e : cv.1 = 1 := by omega
    rw [e, x1]
    show hL X 40 k_346 [(0, 12, 2)] (k_346.drop 8) [some (vR 0), some (vR 900), none] [] p' s 1 6 _
    refine h_pure 1 (k' := k_346.drop 9) (lv' := [some (vR 0), some (vR 900), none]) (st' := [vI 1]) rfl (h_iret ?_)
    exact ⟨p', s, fun c hc _ => h1 c hc, Or.inr ⟨c0, hRC, by rw [e]; rfl⟩⟩
/-- early -/
theorem w_347 {X : Nat × (Nat → Int32)} {p : Nat → Nat} {sg : Mg} {Af As : AS} {ex : Nat → Nat} {cv : Nat × Int32} {a0 : Int32} (hn : As.n ≤ 12) (hc : cv.1 ≤ 1) (x1 : ex 1 = 2) (h : gF X 40 173 [vR 0, vI a0] p sg (cR Af As ex cv sg)) : gF X 41 347 [vR 0, vI a0, vR 900] p sg (wR Af As cv id sg) := by
  refine h_in (cd := k_347) (nL := 4) (rc := 0) (hs := [(2, 13, 3)]) rfl trivial (g_c1 rfl) ?_
  show hL X 40 k_347 [(2, 13, 3)] k_347 [some (vR 0), some (vI a0), some (vR 900), none] [] p sg 0 0 _
  refine h_pure 4 (k' := k_347.drop 4) (lv' := [some (vR 0), some (vI a0), some (vR 900), none]) (st' := [vI a0, vR 0, vI 0, vR 900]) rfl ?_
  refine h_calV (args := [vR 0, vI a0]) (rest := [vI 0, vR 900]) rfl rfl (by decide) h (fun r hr => ?_)
  obtain ⟨p', s, h1, ⟨c0, hRC, rfl⟩ | ⟨c0, hRC, rfl⟩⟩ := hr
  · show hL X 40 k_347 [(2, 13, 3)] (k_347.drop 5) [some (vR 0), some (vI a0), some (vR 900), none] [vI cv.2, vI 0, vR 900] p' s 0 0 _
    refine h_i2l (h_last ?_)
    refine h_goto (k' := k_347.drop 11) rfl (h_pure 1 (k' := k_347.drop 12) (lv' := [some (vR 0), some (vI a0), some (vR 900), none]) (st' := [vI 0]) rfl (h_iret ?_))
    exact ⟨p', _, fun c hc h9 => (mu_ne h9).trans (h1 c hc), Or.inl ⟨c0, hRC.mu9 hn _, mu_self, rfl⟩⟩
  · have e : cv.1 = 1 := by omega
    rw [e, x1]
    show hL X 40 k_347 [(2, 13, 3)] (k_347.drop 9) [some (vR 0), some (vI a0), some (vR 900), none] [] p' s 1 6 _
    refine h_pure 1 (k' := k_347.drop 10) (lv' := [some (vR 0), some (vI a0), some (vR 900), none]) (st' := [vI 1]) rfl (h_iret ?_)
    exact ⟨p', s, fun c hc _ => h1 c hc, Or.inr ⟨c0, hRC, by rw [e]; rfl⟩⟩
/-- netted -/
theorem w_348 {X : Nat × (Nat → Int32)} {p : Nat → Nat} {sg : Mg} {Af As : AS} {ex : Nat → Nat} {cv : Nat × Int32} {a0 : Int32} (hn : As.n ≤ 12) (hc : cv.1 ≤ 1) (x1 : ex 1 = 2) (h : gF X 40 174 [vR 0, vI a0] p sg (cR Af As ex cv sg)) : gF X 41 348 [vR 0, vI a0, vR 900] p sg (wR Af As cv id sg) := by
  refine h_in (cd := k_348) (nL := 4) (rc := 0) (hs := [(2, 13, 3)]) rfl trivial (g_c1 rfl) ?_
  show hL X 40 k_348 [(2, 13, 3)] k_348 [some (vR 0), some (vI a0), some (vR 900), none] [] p sg 0 0 _
  refine h_pure 4 (k' := k_348.drop 4) (lv' := [some (vR 0), some (vI a0), some (vR 900), none]) (st' := [vI a0, vR 0, vI 0, vR 900]) rfl ?_
  refine h_calV (args := [vR 0, vI a0]) (rest := [vI 0, vR 900]) rfl rfl (by decide) h (fun r hr => ?_)
  obtain ⟨p', s, h1, ⟨c0, hRC, rfl⟩ | ⟨c0, hRC, rfl⟩⟩ := hr
  · show hL X 40 k_348 [(2, 13, 3)] (k_348.drop 5) [some (vR 0), some (vI a0), some (vR 900), none] [vI cv.2, vI 0, vR 900] p' s 0 0 _
    refine h_i2l (h_last ?_)
    refine h_goto (k' := k_348.drop 11) rfl (h_pure 1 (k' := k_348.drop 12) (lv' := [some (vR 0), some (vI a0), some (vR 900), none]) (st' := [vI 0]) rfl (h_iret ?_))
    exact ⟨p', _, fun c hc h9 => (mu_ne h9).trans (h1 c hc), Or.inl ⟨c0, hRC.mu9 hn _, mu_self, rfl⟩⟩
  · have e : cv.1 = 1 := by omega
    rw [e, x1]
    show hL X 40 k_348 [(2, 13, 3)] (k_348.drop 9) [some (vR 0), some (vI a0), some (vR 900), none] [] p' s 1 6 _
    refine h_pure 1 (k' := k_348.drop 10) (lv' := [some (vR 0), some (vI a0), some (vR 900), none]) (st' := [vI 1]) rfl (h_iret ?_)
    exact ⟨p', s, fun c hc _ => h1 c hc, Or.inr ⟨c0, hRC, by rw [e]; rfl⟩⟩
/-- feasted -/
theorem w_349 {X : Nat × (Nat → Int32)} {p : Nat → Nat} {sg : Mg} {Af As : AS} {ex : Nat → Nat} {cv : Nat × Int32} {a0 : Int32} {a1 : Int32} (hn : As.n ≤ 12) (hc : cv.1 ≤ 2) (x1 : ex 1 = 2) (x2 : ex 2 = 0) (h : gF X 40 175 [vR 0, vI a0, vI a1] p sg (cR Af As ex cv sg)) : gF X 41 349 [vR 0, vI a0, vI a1, vR 900] p sg (wR Af As cv id sg) := by
  refine h_in (cd := k_349) (nL := 5) (rc := 0) (hs := [(2, 15, 4), (0, 19, 4)]) rfl trivial (g_c1 rfl) ?_
  show hL X 40 k_349 [(2, 15, 4), (0, 19, 4)] k_349 [some (vR 0), some (vI a0), some (vI a1), some (vR 900), none] [] p sg 0 0 _
  refine h_pure 5 (k' := k_349.drop 5) (lv' := [some (vR 0), some (vI a0), some (vI a1), some (vR 900), none]) (st' := [vI a1, vI a0, vR 0, vI 0, vR 900]) rfl ?_
  refine h_calV (args := [vR 0, vI a0, vI a1]) (rest := [vI 0, vR 900]) rfl rfl (by decide) h (fun r hr => ?_)
  obtain ⟨p', s, h1, ⟨c0, hRC, rfl⟩ | ⟨c0, hRC, rfl⟩⟩ := hr
  · show hL X 40 k_349 [(2, 15, 4), (0, 19, 4)] (k_349.drop 6) [some (vR 0), some (vI a0), some (vI a1), some (vR 900), none] [vI cv.2, vI 0, vR 900] p' s 0 0 _
    refine h_i2l (h_last ?_)
    refine h_goto (k' := k_349.drop 15) rfl (h_pure 1 (k' := k_349.drop 16) (lv' := [some (vR 0), some (vI a0), some (vI a1), some (vR 900), none]) (st' := [vI 0]) rfl (h_iret ?_))
    exact ⟨p', _, fun c hc h9 => (mu_ne h9).trans (h1 c hc), Or.inl ⟨c0, hRC.mu9 hn _, mu_self, rfl⟩⟩
  · rcases (show cv.1 = 1 ∨ cv.1 = 2 by omega) with e | e
    · rw [e, x1]
      show hL X 40 k_349 [(2, 15, 4), (0, 19, 4)] (k_349.drop 10) [some (vR 0), some (vI a0), some (vI a1), some (vR 900), none] [] p' s 1 6 _
      refine h_pure 1 (k' := k_349.drop 11) (lv' := [some (vR 0), some (vI a0), some (vI a1), some (vR 900), none]) (st' := [vI 1]) rfl (h_iret ?_)
      exact ⟨p', s, fun c hc _ => h1 c hc, Or.inr ⟨c0, hRC, by rw [e]; rfl⟩⟩
    · rw [e, x2]
      show hL X 40 k_349 [(2, 15, 4), (0, 19, 4)] (k_349.drop 13) [some (vR 0), some (vI a0), some (vI a1), some (vR 900), none] [] p' s 1 6 _
      refine h_pure 1 (k' := k_349.drop 14) (lv' := [some (vR 0), some (vI a0), some (vI a1), some (vR 900), none]) (st' := [vI 2]) rfl (h_iret ?_)
      exact ⟨p', s, fun c hc _ => h1 c hc, Or.inr ⟨c0, hRC, by rw [e]; rfl⟩⟩
/-- plan -/
theorem w_350 {X : Nat × (Nat → Int32)} {p : Nat → Nat} {sg : Mg} {Af As : AS} {ex : Nat → Nat} {cv : Nat × Int32} {a0 : Int32} {a1 : Int32} {a2 : Int32} (hn : As.n ≤ 12) (hc : cv.1 ≤ 1) (x1 : ex 1 = 2) (h : gF X 40 176 [vR 0, vI a0, vI a1, vI a2] p sg (cR Af As ex cv sg)) : gF X 41 350 [vR 0, vI a0, vI a1, vI a2, vR 900] p sg (wR Af As cv id sg) := by
  refine h_in (cd := k_350) (nL := 6) (rc := 0) (hs := [(2, 17, 5)]) rfl trivial (g_c1 rfl) ?_
  show hL X 40 k_350 [(2, 17, 5)] k_350 [some (vR 0), some (vI a0), some (vI a1), some (vI a2), some (vR 900), none] [] p sg 0 0 _
  refine h_pure 6 (k' := k_350.drop 6) (lv' := [some (vR 0), some (vI a0), some (vI a1), some (vI a2), some (vR 900), none]) (st' := [vI a2, vI a1, vI a0, vR 0, vI 0, vR 900]) rfl ?_
  refine h_calV (args := [vR 0, vI a0, vI a1, vI a2]) (rest := [vI 0, vR 900]) rfl rfl (by decide) h (fun r hr => ?_)
  obtain ⟨p', s, h1, ⟨c0, hRC, rfl⟩ | ⟨c0, hRC, rfl⟩⟩ := hr
  · show hL X 40 k_350 [(2, 17, 5)] (k_350.drop 7) [some (vR 0), some (vI a0), some (vI a1), some (vI a2), some (vR 900), none] [vI cv.2, vI 0, vR 900] p' s 0 0 _
    refine h_i2l (h_last ?_)
    refine h_goto (k' := k_350.drop 13) rfl (h_pure 1 (k' := k_350.drop 14) (lv' := [some (vR 0), some (vI a0), some (vI a1), some (vI a2), some (vR 900), none]) (st' := [vI 0]) rfl (h_iret ?_))
    exact ⟨p', _, fun c hc h9 => (mu_ne h9).trans (h1 c hc), Or.inl ⟨c0, hRC.mu9 hn _, mu_self, rfl⟩⟩
  · have e : cv.1 = 1 := by omega
    rw [e, x1]
    show hL X 40 k_350 [(2, 17, 5)] (k_350.drop 11) [some (vR 0), some (vI a0), some (vI a1), some (vI a2), some (vR 900), none] [] p' s 1 6 _
    refine h_pure 1 (k' := k_350.drop 12) (lv' := [some (vR 0), some (vI a0), some (vI a1), some (vI a2), some (vR 900), none]) (st' := [vI 1]) rfl (h_iret ?_)
    exact ⟨p', s, fun c hc _ => h1 c hc, Or.inr ⟨c0, hRC, by rw [e]; rfl⟩⟩
/-- log -/
theorem w_351 {X : Nat × (Nat → Int32)} {p : Nat → Nat} {sg : Mg} {Af As : AS} {ex : Nat → Nat} {cv : Nat × Int32} {a0 : Int32} {a1 : Int32} (hn : As.n ≤ 12) (hc : cv.1 ≤ 1) (x1 : ex 1 = 3) (h : gF X 40 177 [vR 0, vI a0, vI a1] p sg (cR Af As ex cv sg)) : gF X 41 351 [vR 0, vI a0, vI a1, vR 900] p sg (wR Af As cv id sg) := by
  refine h_in (cd := k_351) (nL := 5) (rc := 0) (hs := [(3, 15, 4)]) rfl trivial (g_c1 rfl) ?_
  show hL X 40 k_351 [(3, 15, 4)] k_351 [some (vR 0), some (vI a0), some (vI a1), some (vR 900), none] [] p sg 0 0 _
  refine h_pure 5 (k' := k_351.drop 5) (lv' := [some (vR 0), some (vI a0), some (vI a1), some (vR 900), none]) (st' := [vI a1, vI a0, vR 0, vI 0, vR 900]) rfl ?_
  refine h_calV (args := [vR 0, vI a0, vI a1]) (rest := [vI 0, vR 900]) rfl rfl (by decide) h (fun r hr => ?_)
  obtain ⟨p', s, h1, ⟨c0, hRC, rfl⟩ | ⟨c0, hRC, rfl⟩⟩ := hr
  · show hL X 40 k_351 [(3, 15, 4)] (k_351.drop 6) [some (vR 0), some (vI a0), some (vI a1), some (vR 900), none] [vI cv.2, vI 0, vR 900] p' s 0 0 _
    refine h_i2l (h_last ?_)
    refine h_goto (k' := k_351.drop 12) rfl (h_pure 1 (k' := k_351.drop 13) (lv' := [some (vR 0), some (vI a0), some (vI a1), some (vR 900), none]) (st' := [vI 0]) rfl (h_iret ?_))
    exact ⟨p', _, fun c hc h9 => (mu_ne h9).trans (h1 c hc), Or.inl ⟨c0, hRC.mu9 hn _, mu_self, rfl⟩⟩
  · have e : cv.1 = 1 := by omega
    rw [e, x1]
    show hL X 40 k_351 [(3, 15, 4)] (k_351.drop 10) [some (vR 0), some (vI a0), some (vI a1), some (vR 900), none] [] p' s 1 6 _
    refine h_pure 1 (k' := k_351.drop 11) (lv' := [some (vR 0), some (vI a0), some (vI a1), some (vR 900), none]) (st' := [vI 1]) rfl (h_iret ?_)
    exact ⟨p', s, fun c hc _ => h1 c hc, Or.inr ⟨c0, hRC, by rw [e]; rfl⟩⟩
