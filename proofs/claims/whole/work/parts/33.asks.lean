/-! WHAT IS ASKED of days and pages (made by wip/whole/gen33.py) -/
/-- how the class's method ends: code 0 and a number, or an exception -/
def oC (p : Nat → Nat) (s : Mg) (ex : Nat → Nat) (cv : Nat × Int32) (r : am_R) : Prop := if cv.1 = 0 then r = gRv p s cv.2 else r = gRx p s (ex cv.1)
/-- how the reference's method ends: a number, and what it says was thrown -/
def oM (p : Nat → Nat) (sg : Mg) (cv : Nat × Int32) (r : am_R) : Prop := ∃ v, (cv.1 = 0 → v = cv.2) ∧ r = gRv p (mu sg 800 0 (nI cv.1)) v
theorem mu_mu {sg : Mg} {a i : Nat} {x y : Int32} : mu (mu sg a i x) a i y = mu sg a i y := by
  funext b j
  by_cases h : b = a
  · subst h
    by_cases h2 : j = i
    · subst h2; rw [mu_self, mu_self]
    · rw [mu_idx h2, mu_idx h2, mu_idx h2]
  · rw [mu_ne h, mu_ne h, mu_ne h]
theorem oC_0 {p : Nat → Nat} {s : Mg} {ex : Nat → Nat} {cv : Nat × Int32} {v : Int32} (h : cv = (0, v)) : oC p s ex cv (gRv p s v) := by
  subst h
  unfold oC
  rw [if_pos rfl]
theorem oC_x {p : Nat → Nat} {s : Mg} {ex : Nat → Nat} {cv : Nat × Int32} {e c : Nat} (h : cv.1 = c + 1) (he : ex (c + 1) = e) : oC p s ex cv (gRx p s e) := by
  unfold oC
  rw [if_neg (by omega), h, he]
theorem oM_0 {p : Nat → Nat} {sg s : Mg} {cv : Nat × Int32} {v : Int32} (hs : s = mu sg 800 0 0) (h : cv = (0, v)) : oM p sg cv (gRv p s v) := by subst hs h; exact ⟨v, fun _ => rfl, rfl⟩
theorem oM_x {p : Nat → Nat} {sg s1 s : Mg} {cv : Nat × Int32} {v : Int32} {c : Nat} (h1 : s1 = mu sg 800 0 0) (hs : s = mu s1 800 0 (nI (c + 1))) (h : cv.1 = c + 1) : oM p sg cv (gRv p s v) := by
  subst h1 hs
  refine ⟨v, fun h9 => by omega, ?_⟩
  rw [mu_mu, h]
/-- from lo to hi -/
abbrev okr (x : Int32) (lo hi : Nat) : Prop := ¬ (x < nI lo) ∧ ¬ (nI hi < x)
theorem okr_nI {k lo hi : Nat} (hk : k < 2147483648) (hl : lo < 2147483648) (hh : hi < 2147483648) : okr (nI k) lo hi ↔ lo ≤ k ∧ k ≤ hi := by
  unfold okr
  rw [nI_ltI hk hl, nI_ltI hh hk]
  omega
def nxt (S : Nat → Int32) (v e t : Nat) : Nat := t + (pgf S v e + sn S 9 - t % sn S 9) % sn S 9

def dayR (S : Nat → Int32) (x : Int32) (y : Int32) : Nat × Int32 := if okx x (sn S 0) then (if okr y 0 1000000 then ((0, S (17 + 16 * x.toNatClampNeg + y.toNatClampNeg % sn S 9))) else (2, 0)) else (1, 0)

theorem b_139_0 {X : Nat × (Nat → Int32)} {d : Nat} {p : Nat → Nat} {sg : Mg} {Q : am_R → Prop} {B : Nat} {S : Nat → Int32} (hI : Inv B S) (hL : cwL 250 sg S) (hD : cwD 200 sg S) {x : Int32} {y : Int32}
    (o1 : ∀ n2 : Nat, x = nI n2 → n2 < sn S 0 → ∀ n4 : Nat, y = nI n4 → 0 ≤ n4 ∧ n4 ≤ 1000000 → Q (gRv p sg (S (17 + 16 * n2 + (n4 % sn S 9)))))
    (o2 : ∀ n2 : Nat, x = nI n2 → n2 < sn S 0 → (¬ (¬ (y < 0) ∧ ¬ (1000000 < y))) → Q (gRx p sg 0))
    (o3 : (¬ okx x (sn S 0)) → Q (gRx p sg 2)) :
    gW X (d + 3) k_139 0 [some (vR 0), some (vI x), some (vI y)] [] p sg Q := by
  have b0 := hI.b0; have b1 := hI.b1; have b2 := hI.b2; have b3 := hI.b3; have b4 := hI.b4; have b5 := hI.b5; have b6 := hI.b6; have b7 := hI.b7; have b8 := hI.b8; have b9 := hI.b9; have b14 := hI.b14
  refine g_pure 3 (i' := 3) (lv' := [some (vR 0), some (vI x), some (vI y)]) (st' := [vI x, vI 0, vR 0]) rfl ?_
  by_cases h1 : okx x (sn S 0)
  · obtain ⟨n2, ln2, en2⟩ := okx_of h1
    subst en2
    refine gW_eq (st' := [vI (nI n2), vI (nI 0), vR 0]) rfl (by rw [(show (0 : Int32) = nI 0 from rfl)]) rfl ?_
    refine g_cV0 rfl (args := [vR 0, vI (nI 0), vI (nI n2)]) (rest := []) rfl rfl rfl (s_140o (d := d + 1) hI hL hD (by omega) ((okx_nI (by omega)).mpr (by omega))) ?_
    refine g_pure 3 (i' := 7) (lv' := [some (vR 0), some (vI (nI n2)), some (vI y)]) (st' := [vI 1000000, vI 0, vI y]) rfl ?_
    by_cases h3 : (¬ (y < 0) ∧ ¬ (1000000 < y))
    · obtain ⟨n4, ln4, en4⟩ := okr_of (lo := 0) (hi := 1000000) (by decide) h3
      subst en4
      refine g_cS0 rfl (args := [vI (nI n4), vI 0, vI 1000000]) (rest := []) rfl rfl rfl (s_141o (d := d + 2) (nI_nlt (b := 0) (by omega) (by omega)) (nI_nlt (a := 1000000) (by omega) (by omega))) ?_
      refine g_pure 4 (i' := 12) (lv' := [some (vR 0), some (vI (nI n2)), some (vI (nI n4))]) (st' := [vI (nI n4), vI (nI n2), vR 200]) rfl ?_
      refine g_cV1 rfl (args := [vR 200, vI (nI n2), vI (nI n4)]) (rest := []) rfl rfl rfl (s_110 (d := d) hI hL hD (by omega) (by omega)) ?_
      have t5 := Nat.mod_lt (n4) (y := sn S 9) (by omega)
      refine g_iret rfl ?_
      exact o1 n2 rfl ln2 n4 rfl ln4
    · refine g_cSx rfl (args := [vI y, vI 0, vI 1000000]) (rest := []) rfl rfl rfl (s_141x (d := d + 2) (by assumption)) ?_
      exact o2 n2 rfl ln2 h3
  · refine gW_eq (st' := [vI x, vI (nI 0), vR 0]) rfl (by rw [(show (0 : Int32) = nI 0 from rfl)]) rfl ?_
    refine g_cVx rfl (args := [vR 0, vI (nI 0), vI x]) (rest := []) rfl rfl rfl (s_140x (d := d + 1) hI hL hD (by omega) (by assumption)) ?_
    exact o3 h1

theorem c_day {X : Nat × (Nat → Int32)} {d : Nat} {p : Nat → Nat} {sg : Mg} {B : Nat} {S : Nat → Int32} (hI : Inv B S) (hL : cwL 250 sg S) (hD : cwD 200 sg S) {x : Int32} {y : Int32} : gF X (d + 4) 139 [vR 0, vI x, vI y] p sg (oC p sg (fun c => if c = 1 then 2 else 0) (dayR S x y)) := by
  have b0 := hI.b0; have b1 := hI.b1; have b2 := hI.b2; have b3 := hI.b3; have b4 := hI.b4; have b5 := hI.b5; have b9 := hI.b9; have b14 := hI.b14
  refine g_in (cd := k_139) (nL := 3) (rc := 12) rfl (g_A (a := 0) (kd := 0) (n := 11) rfl (by decide)) (g_c1 rfl) (b_139_0 hI hL hD (fun n1 e1 l1 n2 e2 l2 => oC_0 ?_) (fun n1 e1 l1 h2 => oC_x (c := 1) ?_ rfl) (fun h1 => oC_x (c := 0) ?_ rfl))
  · subst e1 e2
    unfold dayR
    rw [if_pos ((okx_nI (by omega)).mpr (by omega)), if_pos ((okr_nI (by omega) (by omega) (by omega)).mpr l2)]
    try simp (disch := omega) only [nI_clamp]
    try exact congrArg (fun j => ((0, S j) : Nat × Int32)) (by omega)
    try (split <;> first | rfl | contradiction)
    try rfl
  · subst e1
    unfold dayR
    rw [if_pos ((okx_nI (by omega)).mpr (by omega)), if_neg (show ¬ okr y 0 1000000 from h2)]
  · skip
    unfold dayR
    rw [if_neg h1]

theorem b_229_0 {X : Nat × (Nat → Int32)} {d : Nat} {p : Nat → Nat} {sg : Mg} {Q : am_R → Prop} {B : Nat} {S : Nat → Int32} (hI : Inv B S) (hS : sg 801 = S) {x : Int32} {y : Int32}
    (o1 : ∀ s1 : Mg, s1 = mu sg 800 0 0 → (¬ okx x (sn S 0)) → ∀ s3 : Mg, s3 = mu s1 800 0 (nI 1) → Q (gRv p s3 0))
    (o2 : ∀ s1 : Mg, s1 = mu sg 800 0 0 → ∀ n5 : Nat, x = nI n5 → n5 < sn S 0 → ∀ n8 : Nat, y = nI n8 → 0 ≤ n8 ∧ n8 ≤ 1000000 → Q (gRv p s1 (S (17 + 16 * n5 + (n8 % (sn S 9))))))
    (o3 : ∀ s1 : Mg, s1 = mu sg 800 0 0 → ∀ n5 : Nat, x = nI n5 → n5 < sn S 0 → (¬ (¬ (y < 0) ∧ ¬ (1000000 < y))) → ∀ s11 : Mg, s11 = mu s1 800 0 (nI 2) → Q (gRv p s11 0)) :
    gW X (d + 2) k_229 0 [some (vR 800), some (vI x), some (vI y)] [] p sg Q := by
  have b0 := hI.b0; have b1 := hI.b1; have b2 := hI.b2; have b3 := hI.b3; have b4 := hI.b4; have b5 := hI.b5; have b6 := hI.b6; have b7 := hI.b7; have b8 := hI.b8; have b9 := hI.b9; have b14 := hI.b14
  refine g_pure 2 (i' := 2) (lv' := [some (vR 800), some (vI x), some (vI y)]) (st' := [vI 0, vR 800]) rfl ?_
  refine g_putI rfl (g_A (a := 800) (kd := 0) (n := 12) rfl (by decide)) ?_
  refine g_setv (fun s1 es1 => ?_)
  have hSs1 : s1 801 = S := by rw [es1, mu_ne (by decide), hS]
  refine g_pure 3 (i' := 6) (lv' := [some (vR 800), some (vI x), some (vI y)]) (st' := [vI x, vR 800, vR 800]) rfl ?_
  refine g_cV1 rfl (args := [vR 800, vI x]) (rest := [vR 800]) rfl rfl rfl (s_230 (d := d) hI hSs1) ?_
  refine g_pure 1 (i' := 8) (lv' := [some (vR 800), some (vI x), some (vI y)]) (st' := [vI 1, vI (if ¬ okx x (sn S 0) then 1 else 0), vR 800]) rfl ?_
  by_cases h2 : ¬ okx x (sn S 0)
  · refine gW_eq (st' := [vI 1, vI 1, vR 800]) rfl (by rw [if_pos h2]) rfl ?_
    refine gW_eq (st' := [vI (nI 1), vI 1, vR 800]) rfl (by rw [(show (1 : Int32) = nI 1 from rfl)]) rfl ?_
    refine g_cV1 rfl (args := [vR 800, vI 1, vI (nI 1)]) (rest := []) rfl rfl rfl (s_227t (d := d + 1) (by omega)) ?_
    refine g_setv (fun s3 es3 => ?_)
    have hSs3 : s3 801 = S := by rw [es3, mu_ne (by decide), hSs1]
    refine g_if1 (i' := 22) (P := ¬ 1 = 0) rfl rfl (g_neN (show 1 = nI 1 from (show (1 : Int32) = nI 1 from rfl)) (show 0 = nI 0 from (show (0 : Int32) = nI 0 from rfl)) (by omega) (by omega)) (fun _ => ?_) (fun h4 => absurd (by omega) h4)
    refine g_pure 1 (i' := 23) (lv' := [some (vR 800), some (vI x), some (vI y)]) (st' := [vI 0]) rfl ?_
    refine g_iret rfl ?_
    exact o1 s1 es1 h2 s3 es3
  · have h2 := Classical.not_not.mp h2
    refine gW_eq (st' := [vI 1, vI 0, vR 800]) rfl (by rw [if_neg (fun n9 => n9 h2)]) rfl ?_
    obtain ⟨n5, ln5, en5⟩ := okx_of h2
    subst en5
    refine gW_eq (st' := [vI (nI 1), vI 0, vR 800]) rfl (by rw [(show (1 : Int32) = nI 1 from rfl)]) rfl ?_
    refine g_cV1 rfl (args := [vR 800, vI 0, vI (nI 1)]) (rest := []) rfl rfl rfl (s_227f (d := d + 1) (by omega)) ?_
    refine g_if1 (i' := 22) (P := ¬ 0 = 0) rfl rfl (g_neN (show 0 = nI 0 from (show (0 : Int32) = nI 0 from rfl)) (show 0 = nI 0 from (show (0 : Int32) = nI 0 from rfl)) (by omega) (by omega)) (fun h6 => absurd h6 (by omega)) (fun _ => ?_)
    refine g_pure 4 (i' := 14) (lv' := [some (vR 800), some (vI (nI n5)), some (vI y)]) (st' := [vI 1000000, vI 0, vI y, vR 800]) rfl ?_
    refine g_cS1 rfl (args := [vI y, vI 0, vI 1000000]) (rest := [vR 800]) rfl rfl rfl (s_231 (d := d + 1) ) ?_
    refine g_if1 (i' := 18) (P := (¬ (y < 0) ∧ ¬ (1000000 < y))) rfl rfl g_neB (fun h7 => ?_) (fun h7 => ?_)
    · obtain ⟨n8, ln8, en8⟩ := okr_of (lo := 0) (hi := 1000000) (by decide) h7
      subst en8
      refine g_pure 2 (i' := 20) (lv' := [some (vR 800), some (vI (nI n5)), some (vI (nI n8))]) (st' := [vI 2, vI 0, vR 800]) rfl ?_
      refine gW_eq (st' := [vI (nI 2), vI 0, vR 800]) rfl (by rw [(show (2 : Int32) = nI 2 from rfl)]) rfl ?_
      refine g_cV1 rfl (args := [vR 800, vI 0, vI (nI 2)]) (rest := []) rfl rfl rfl (s_227f (d := d + 1) (by omega)) ?_
      refine g_if1 (i' := 24) (P := 0 = 0) rfl rfl (g_eqN (show 0 = nI 0 from (show (0 : Int32) = nI 0 from rfl)) (show 0 = nI 0 from (show (0 : Int32) = nI 0 from rfl)) (by omega) (by omega)) (fun _ => ?_) (fun h9 => absurd (by omega) h9)
      refine g_pure 3 (i' := 27) (lv' := [some (vR 800), some (vI (nI n5)), some (vI (nI n8))]) (st' := [vI (nI n8), vI (nI n5), vR 800]) rfl ?_
      refine g_cV1 rfl (args := [vR 800, vI (nI n5), vI (nI n8)]) (rest := []) rfl rfl rfl (s_232 (d := d) hI hSs1 (by omega) (by omega)) ?_
      have t10 := Nat.mod_lt (n8) (y := sn S 9) (by omega)
      refine g_iret rfl ?_
      exact o2 s1 es1 n5 rfl ln5 n8 rfl ln8
    · refine g_pure 3 (i' := 20) (lv' := [some (vR 800), some (vI (nI n5)), some (vI y)]) (st' := [vI 2, vI 1, vR 800]) rfl ?_
      refine gW_eq (st' := [vI (nI 2), vI 1, vR 800]) rfl (by rw [(show (2 : Int32) = nI 2 from rfl)]) rfl ?_
      refine g_cV1 rfl (args := [vR 800, vI 1, vI (nI 2)]) (rest := []) rfl rfl rfl (s_227t (d := d + 1) (by omega)) ?_
      refine g_setv (fun s11 es11 => ?_)
      have hSs11 : s11 801 = S := by rw [es11, mu_ne (by decide), hSs1]
      refine g_if1 (i' := 24) (P := 1 = 0) rfl rfl (g_eqN (show 1 = nI 1 from (show (1 : Int32) = nI 1 from rfl)) (show 0 = nI 0 from (show (0 : Int32) = nI 0 from rfl)) (by omega) (by omega)) (fun h12 => absurd h12 (by omega)) (fun _ => ?_)
      refine g_pure 1 (i' := 23) (lv' := [some (vR 800), some (vI (nI n5)), some (vI y)]) (st' := [vI 0]) rfl ?_
      refine g_iret rfl ?_
      exact o3 s1 es1 n5 rfl ln5 h7 s11 es11

theorem m_day {X : Nat × (Nat → Int32)} {d : Nat} {p : Nat → Nat} {sg : Mg} {B : Nat} {S : Nat → Int32} (hI : Inv B S) (hS : sg 801 = S) {x : Int32} {y : Int32} : gF X (d + 3) 229 [vR 800, vI x, vI y] p sg (oM p sg (dayR S x y)) := by
  have b0 := hI.b0; have b1 := hI.b1; have b2 := hI.b2; have b3 := hI.b3; have b4 := hI.b4; have b5 := hI.b5; have b9 := hI.b9; have b14 := hI.b14
  refine g_in (cd := k_229) (nL := 3) (rc := 13) rfl (g_A (a := 800) (kd := 0) (n := 12) rfl (by decide)) (g_c1 rfl) (b_229_0 hI hS (fun s1 f1 h2 s3 f3 => oM_x (c := 0) f1 f3 ?_) (fun s1 f1 n2 e2 l2 n3 e3 l3 => oM_0 f1 ?_) (fun s1 f1 n2 e2 l2 h3 s4 f4 => oM_x (c := 1) f1 f4 ?_))
  · skip
    unfold dayR
    rw [if_neg h2]
  · subst e2 e3
    unfold dayR
    rw [if_pos ((okx_nI (by omega)).mpr (by omega)), if_pos ((okr_nI (by omega) (by omega) (by omega)).mpr l3)]
    try simp (disch := omega) only [nI_clamp]
    try exact congrArg (fun j => ((0, S j) : Nat × Int32)) (by omega)
    try (split <;> first | rfl | contradiction)
    try rfl
  · subst e2
    unfold dayR
    rw [if_pos ((okx_nI (by omega)).mpr (by omega)), if_neg (show ¬ okr y 0 1000000 from h3)]

def pageR (S : Nat → Int32) (x : Int32) (y : Int32) : Nat × Int32 := if okx x (sn S 0) then (if okx y (sn S 9) then ((0, nI (pgf S x.toNatClampNeg y.toNatClampNeg))) else (1, 0)) else (1, 0)

theorem b_142_0 {X : Nat × (Nat → Int32)} {d : Nat} {p : Nat → Nat} {sg : Mg} {Q : am_R → Prop} {B : Nat} {S : Nat → Int32} (hI : Inv B S) (hL : cwL 250 sg S) (hD : cwD 200 sg S) {x : Int32} {y : Int32}
    (o1 : ∀ n2 : Nat, x = nI n2 → n2 < sn S 0 → ∀ n4 : Nat, y = nI n4 → n4 < sn S 9 → Q (gRv p sg (nI (pgf S n2 n4))))
    (o2 : ∀ n2 : Nat, x = nI n2 → n2 < sn S 0 → (¬ okx y (sn S 9)) → Q (gRx p sg 2))
    (o3 : (¬ okx x (sn S 0)) → Q (gRx p sg 2)) :
    gW X (d + 3) k_142 0 [some (vR 0), some (vI x), some (vI y)] [] p sg Q := by
  have b0 := hI.b0; have b1 := hI.b1; have b2 := hI.b2; have b3 := hI.b3; have b4 := hI.b4; have b5 := hI.b5; have b6 := hI.b6; have b7 := hI.b7; have b8 := hI.b8; have b9 := hI.b9; have b14 := hI.b14
  refine g_pure 3 (i' := 3) (lv' := [some (vR 0), some (vI x), some (vI y)]) (st' := [vI x, vI 0, vR 0]) rfl ?_
  by_cases h1 : okx x (sn S 0)
  · obtain ⟨n2, ln2, en2⟩ := okx_of h1
    subst en2
    refine gW_eq (st' := [vI (nI n2), vI (nI 0), vR 0]) rfl (by rw [(show (0 : Int32) = nI 0 from rfl)]) rfl ?_
    refine g_cV0 rfl (args := [vR 0, vI (nI 0), vI (nI n2)]) (rest := []) rfl rfl rfl (s_140o (d := d + 1) hI hL hD (by omega) ((okx_nI (by omega)).mpr (by omega))) ?_
    refine g_pure 2 (i' := 6) (lv' := [some (vR 0), some (vI (nI n2)), some (vI y)]) (st' := [vI y, vR 0]) rfl ?_
    by_cases h3 : okx y (sn S 9)
    · obtain ⟨n4, ln4, en4⟩ := okx_of h3
      subst en4
      refine g_cV0 rfl (args := [vR 0, vI (nI n4)]) (rest := []) rfl rfl rfl (s_143o (d := d + 2) hI hL hD ((okx_nI (by omega)).mpr (by omega))) ?_
      refine g_pure 4 (i' := 11) (lv' := [some (vR 0), some (vI (nI n2)), some (vI (nI n4))]) (st' := [vI (nI n4), vI (nI n2), vR 200]) rfl ?_
      refine g_cV1 rfl (args := [vR 200, vI (nI n2), vI (nI n4)]) (rest := []) rfl rfl rfl (s_109 (d := d + 2) hI hL hD (by omega) (by omega)) ?_
      have t5 := (pgf_ok hI (v := n2) (e := n4) (by omega) (by omega)).1
      refine g_iret rfl ?_
      exact o1 n2 rfl ln2 n4 rfl ln4
    · refine g_cVx rfl (args := [vR 0, vI y]) (rest := []) rfl rfl rfl (s_143x (d := d + 2) hI hL hD (by assumption)) ?_
      exact o2 n2 rfl ln2 h3
  · refine gW_eq (st' := [vI x, vI (nI 0), vR 0]) rfl (by rw [(show (0 : Int32) = nI 0 from rfl)]) rfl ?_
    refine g_cVx rfl (args := [vR 0, vI (nI 0), vI x]) (rest := []) rfl rfl rfl (s_140x (d := d + 1) hI hL hD (by omega) (by assumption)) ?_
    exact o3 h1

theorem c_page {X : Nat × (Nat → Int32)} {d : Nat} {p : Nat → Nat} {sg : Mg} {B : Nat} {S : Nat → Int32} (hI : Inv B S) (hL : cwL 250 sg S) (hD : cwD 200 sg S) {x : Int32} {y : Int32} : gF X (d + 4) 142 [vR 0, vI x, vI y] p sg (oC p sg (fun _ => 2) (pageR S x y)) := by
  have b0 := hI.b0; have b1 := hI.b1; have b2 := hI.b2; have b3 := hI.b3; have b4 := hI.b4; have b5 := hI.b5; have b9 := hI.b9; have b14 := hI.b14
  refine g_in (cd := k_142) (nL := 3) (rc := 12) rfl (g_A (a := 0) (kd := 0) (n := 11) rfl (by decide)) (g_c1 rfl) (b_142_0 hI hL hD (fun n1 e1 l1 n2 e2 l2 => oC_0 ?_) (fun n1 e1 l1 h2 => oC_x (c := 0) ?_ rfl) (fun h1 => oC_x (c := 0) ?_ rfl))
  · subst e1 e2
    unfold pageR
    rw [if_pos ((okx_nI (by omega)).mpr (by omega)), if_pos ((okx_nI (by omega)).mpr (by omega))]
    try simp (disch := omega) only [nI_clamp]
    try exact congrArg (fun j => ((0, S j) : Nat × Int32)) (by omega)
    try (split <;> first | rfl | contradiction)
    try rfl
  · subst e1
    unfold pageR
    rw [if_pos ((okx_nI (by omega)).mpr (by omega)), if_neg h2]
  · skip
    unfold pageR
    rw [if_neg h1]

theorem b_233_0 {X : Nat × (Nat → Int32)} {d : Nat} {p : Nat → Nat} {sg : Mg} {Q : am_R → Prop} {B : Nat} {S : Nat → Int32} (hI : Inv B S) (hS : sg 801 = S) {x : Int32} {y : Int32}
    (o1 : ∀ s1 : Mg, s1 = mu sg 800 0 0 → (¬ okx x (sn S 0)) → ∀ s3 : Mg, s3 = mu s1 800 0 (nI 1) → Q (gRv p s3 0))
    (o2 : ∀ s1 : Mg, s1 = mu sg 800 0 0 → ∀ n5 : Nat, x = nI n5 → n5 < sn S 0 → ∀ n7 : Nat, y = nI n7 → n7 < sn S 9 → Q (gRv p s1 (nI (pgf S n5 n7))))
    (o3 : ∀ s1 : Mg, s1 = mu sg 800 0 0 → ∀ n5 : Nat, x = nI n5 → n5 < sn S 0 → (¬ okx y (sn S 9)) → ∀ s10 : Mg, s10 = mu s1 800 0 (nI 1) → Q (gRv p s10 0)) :
    gW X (d + 2) k_233 0 [some (vR 800), some (vI x), some (vI y)] [] p sg Q := by
  have b0 := hI.b0; have b1 := hI.b1; have b2 := hI.b2; have b3 := hI.b3; have b4 := hI.b4; have b5 := hI.b5; have b6 := hI.b6; have b7 := hI.b7; have b8 := hI.b8; have b9 := hI.b9; have b14 := hI.b14
  refine g_pure 2 (i' := 2) (lv' := [some (vR 800), some (vI x), some (vI y)]) (st' := [vI 0, vR 800]) rfl ?_
  refine g_putI rfl (g_A (a := 800) (kd := 0) (n := 12) rfl (by decide)) ?_
  refine g_setv (fun s1 es1 => ?_)
  have hSs1 : s1 801 = S := by rw [es1, mu_ne (by decide), hS]
  refine g_pure 3 (i' := 6) (lv' := [some (vR 800), some (vI x), some (vI y)]) (st' := [vI x, vR 800, vR 800]) rfl ?_
  refine g_cV1 rfl (args := [vR 800, vI x]) (rest := [vR 800]) rfl rfl rfl (s_230 (d := d) hI hSs1) ?_
  refine g_if1 (i' := 12) (P := ¬ okx x (sn S 0)) rfl rfl g_neB (fun h2 => ?_) (fun h2 => ?_)
  · refine g_pure 3 (i' := 16) (lv' := [some (vR 800), some (vI x), some (vI y)]) (st' := [vI 1, vI 1, vR 800]) rfl ?_
    refine gW_eq (st' := [vI (nI 1), vI 1, vR 800]) rfl (by rw [(show (1 : Int32) = nI 1 from rfl)]) rfl ?_
    refine g_cV1 rfl (args := [vR 800, vI 1, vI (nI 1)]) (rest := []) rfl rfl rfl (s_227t (d := d + 1) (by omega)) ?_
    refine g_setv (fun s3 es3 => ?_)
    have hSs3 : s3 801 = S := by rw [es3, mu_ne (by decide), hSs1]
    refine g_if1 (i' := 20) (P := 1 = 0) rfl rfl (g_eqN (show 1 = nI 1 from (show (1 : Int32) = nI 1 from rfl)) (show 0 = nI 0 from (show (0 : Int32) = nI 0 from rfl)) (by omega) (by omega)) (fun h4 => absurd h4 (by omega)) (fun _ => ?_)
    refine g_pure 2 (i' := 24) (lv' := [some (vR 800), some (vI x), some (vI y)]) (st' := [vI 0]) rfl ?_
    refine g_iret rfl ?_
    exact o1 s1 es1 h2 s3 es3
  · have h2 := Classical.not_not.mp h2
    obtain ⟨n5, ln5, en5⟩ := okx_of h2
    subst en5
    refine g_pure 2 (i' := 10) (lv' := [some (vR 800), some (vI (nI n5)), some (vI y)]) (st' := [vI y, vR 800, vR 800]) rfl ?_
    refine g_cV1 rfl (args := [vR 800, vI y]) (rest := [vR 800]) rfl rfl rfl (s_234 (d := d) hI hSs1) ?_
    refine g_if1 (i' := 14) (P := okx y (sn S 9)) rfl rfl (g_eqB.trans Classical.not_not) (fun h6 => ?_) (fun h6 => ?_)
    · obtain ⟨n7, ln7, en7⟩ := okx_of h6
      subst en7
      refine g_pure 2 (i' := 16) (lv' := [some (vR 800), some (vI (nI n5)), some (vI (nI n7))]) (st' := [vI 1, vI 0, vR 800]) rfl ?_
      refine gW_eq (st' := [vI (nI 1), vI 0, vR 800]) rfl (by rw [(show (1 : Int32) = nI 1 from rfl)]) rfl ?_
      refine g_cV1 rfl (args := [vR 800, vI 0, vI (nI 1)]) (rest := []) rfl rfl rfl (s_227f (d := d + 1) (by omega)) ?_
      refine g_if1 (i' := 20) (P := 0 = 0) rfl rfl (g_eqN (show 0 = nI 0 from (show (0 : Int32) = nI 0 from rfl)) (show 0 = nI 0 from (show (0 : Int32) = nI 0 from rfl)) (by omega) (by omega)) (fun _ => ?_) (fun h8 => absurd (by omega) h8)
      refine g_pure 3 (i' := 23) (lv' := [some (vR 800), some (vI (nI n5)), some (vI (nI n7))]) (st' := [vI (nI n7), vI (nI n5), vR 800]) rfl ?_
      refine g_cV1 rfl (args := [vR 800, vI (nI n5), vI (nI n7)]) (rest := []) rfl rfl rfl (s_216 (d := d) hI hSs1 (by omega) (by omega)) ?_
      have t9 := (pgf_ok hI (v := n5) (e := n7) (by omega) (by omega)).1
      refine g_iret rfl ?_
      exact o2 s1 es1 n5 rfl ln5 n7 rfl ln7
    · refine g_pure 3 (i' := 16) (lv' := [some (vR 800), some (vI (nI n5)), some (vI y)]) (st' := [vI 1, vI 1, vR 800]) rfl ?_
      refine gW_eq (st' := [vI (nI 1), vI 1, vR 800]) rfl (by rw [(show (1 : Int32) = nI 1 from rfl)]) rfl ?_
      refine g_cV1 rfl (args := [vR 800, vI 1, vI (nI 1)]) (rest := []) rfl rfl rfl (s_227t (d := d + 1) (by omega)) ?_
      refine g_setv (fun s10 es10 => ?_)
      have hSs10 : s10 801 = S := by rw [es10, mu_ne (by decide), hSs1]
      refine g_if1 (i' := 20) (P := 1 = 0) rfl rfl (g_eqN (show 1 = nI 1 from (show (1 : Int32) = nI 1 from rfl)) (show 0 = nI 0 from (show (0 : Int32) = nI 0 from rfl)) (by omega) (by omega)) (fun h11 => absurd h11 (by omega)) (fun _ => ?_)
      refine g_pure 2 (i' := 24) (lv' := [some (vR 800), some (vI (nI n5)), some (vI y)]) (st' := [vI 0]) rfl ?_
      refine g_iret rfl ?_
      exact o3 s1 es1 n5 rfl ln5 h6 s10 es10

theorem m_page {X : Nat × (Nat → Int32)} {d : Nat} {p : Nat → Nat} {sg : Mg} {B : Nat} {S : Nat → Int32} (hI : Inv B S) (hS : sg 801 = S) {x : Int32} {y : Int32} : gF X (d + 3) 233 [vR 800, vI x, vI y] p sg (oM p sg (pageR S x y)) := by
  have b0 := hI.b0; have b1 := hI.b1; have b2 := hI.b2; have b3 := hI.b3; have b4 := hI.b4; have b5 := hI.b5; have b9 := hI.b9; have b14 := hI.b14
  refine g_in (cd := k_233) (nL := 3) (rc := 13) rfl (g_A (a := 800) (kd := 0) (n := 12) rfl (by decide)) (g_c1 rfl) (b_233_0 hI hS (fun s1 f1 h2 s3 f3 => oM_x (c := 0) f1 f3 ?_) (fun s1 f1 n2 e2 l2 n3 e3 l3 => oM_0 f1 ?_) (fun s1 f1 n2 e2 l2 h3 s4 f4 => oM_x (c := 0) f1 f4 ?_))
  · skip
    unfold pageR
    rw [if_neg h2]
  · subst e2 e3
    unfold pageR
    rw [if_pos ((okx_nI (by omega)).mpr (by omega)), if_pos ((okx_nI (by omega)).mpr (by omega))]
    try simp (disch := omega) only [nI_clamp]
    try exact congrArg (fun j => ((0, S j) : Nat × Int32)) (by omega)
    try (split <;> first | rfl | contradiction)
    try rfl
  · subst e2
    unfold pageR
    rw [if_pos ((okx_nI (by omega)).mpr (by omega)), if_neg h3]
