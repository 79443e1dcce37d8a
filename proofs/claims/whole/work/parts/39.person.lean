/-! EARLY, LOG, PERSON, COUNT (made by wip/whole/gen39.py) -/
def earlyR (S : Nat → Int32) (x : Int32) : Nat × Int32 := if okx x (sn S 4) then ((0, (nI (pgf S (sn S (213 + 7 * x.toNatClampNeg + 3)) (sn S (213 + 7 * x.toNatClampNeg + 4))) - nI (pgf S (sn S (213 + 7 * x.toNatClampNeg + 3)) (sn S (213 + 7 * x.toNatClampNeg + 5)))))) else (1, 0)

theorem b_173_0 {X : Nat × (Nat → Int32)} {d : Nat} {p : Nat → Nat} {sg : Mg} {Q : am_R → Prop} {B : Nat} {S : Nat → Int32} (hI : Inv B S) (hL : cwL 250 sg S) (hD : cwD 200 sg S) {x : Int32}
    (o1 : ∀ n2 : Nat, x = nI n2 → n2 < sn S 4 → Q (gRv p sg (nI (pgf S (sn S (213 + 7 * n2 + 3)) (sn S (213 + 7 * n2 + 4))) - nI (pgf S (sn S (213 + 7 * n2 + 3)) (sn S (213 + 7 * n2 + 5))))))
    (o2 : (¬ okx x (sn S 4)) → Q (gRx p sg 2)) :
    gW X (d + 2) k_173 0 [some (vR 0), some (vI x), none, none] [] p sg Q := by
  have b0 := hI.b0; have b1 := hI.b1; have b2 := hI.b2; have b3 := hI.b3; have b4 := hI.b4; have b5 := hI.b5; have b6 := hI.b6; have b7 := hI.b7; have b8 := hI.b8; have b9 := hI.b9; have b14 := hI.b14
  refine g_pure 3 (i' := 3) (lv' := [some (vR 0), some (vI x), none, none]) (st' := [vI x, vI 4, vR 0]) rfl ?_
  by_cases h1 : okx x (sn S 4)
  · obtain ⟨n2, ln2, en2⟩ := okx_of h1
    subst en2
    refine gW_eq (st' := [vI (nI n2), vI (nI 4), vR 0]) rfl (by rw [(show (4 : Int32) = nI 4 from rfl)]) rfl ?_
    refine g_cV0 rfl (args := [vR 0, vI (nI 4), vI (nI n2)]) (rest := []) rfl rfl rfl (s_140o (d := d) hI hL hD (by omega) ((okx_nI (by omega)).mpr (by omega))) ?_
    refine g_pure 5 (i' := 9) (lv' := [some (vR 0), some (vI (nI n2)), none, none]) (st' := [vI (nI n2), vR 206]) rfl ?_
    refine g_aald rfl (Or.inl rfl) (g_A (a := 206) (kd := 5) (n := 8) rfl (by decide)) (by decide) (show nI n2 = nI n2 from (rfl : nI n2 = nI n2)) (by omega) (gR_206 (by omega)) ?_
    refine g_pure 3 (i' := 13) (lv' := [some (vR 0), some (vI (nI n2)), some (vR (234 + n2)), none]) (st' := [vI 3, vR (234 + n2)]) rfl ?_
    refine g_ald rfl (gA_206 (by omega)) (by decide) (show 3 = nI 3 from (show (3 : Int32) = nI 3 from rfl)) (by decide) (show _ = S (213 + 7 * n2 + 3) from (hD.deb 3 (by omega) (by decide))) ?_
    refine g_pure 6 (i' := 20) (lv' := [some (vR 0), some (vI (nI n2)), some (vR (234 + n2)), some (vI (S (213 + 7 * n2 + 3)))]) (st' := [vI 4, vR (234 + n2), vI (S (213 + 7 * n2 + 3)), vR 200]) rfl ?_
    refine g_ald rfl (gA_206 (by omega)) (by decide) (show 4 = nI 4 from (show (4 : Int32) = nI 4 from rfl)) (by decide) (show _ = S (213 + 7 * n2 + 4) from (hD.deb 4 (by omega) (by decide))) ?_
    have t3 := (hI.deb (k := n2) (by omega)).2.2.2.1
    have t3b := t3.2
    have t4 := (hI.deb (k := n2) (by omega)).2.2.2.2.1
    have t4b := t4.2
    refine gW_eq (st' := [vI (nI (sn S (213 + 7 * n2 + 4))), vI (nI (sn S (213 + 7 * n2 + 3))), vR 200]) rfl (by rw [(show S (213 + 7 * n2 + 3) = nI (sn S (213 + 7 * n2 + 3)) from t3.1), (show S (213 + 7 * n2 + 4) = nI (sn S (213 + 7 * n2 + 4)) from t4.1)]) rfl ?_
    refine g_cV1 rfl (args := [vR 200, vI (nI (sn S (213 + 7 * n2 + 3))), vI (nI (sn S (213 + 7 * n2 + 4)))]) (rest := []) rfl rfl rfl (s_109 (d := d + 1) hI hL hD (by omega) (by omega)) ?_
    have t5 := (pgf_ok hI (v := (sn S (213 + 7 * n2 + 3))) (e := (sn S (213 + 7 * n2 + 4))) (by omega) (by omega)).1
    refine g_pure 5 (i' := 27) (lv' := [some (vR 0), some (vI (nI n2)), some (vR (234 + n2)), some (vI (S (213 + 7 * n2 + 3)))]) (st' := [vI 5, vR (234 + n2), vI (S (213 + 7 * n2 + 3)), vR 200, vI (nI (pgf S (sn S (213 + 7 * n2 + 3)) (sn S (213 + 7 * n2 + 4))))]) rfl ?_
    refine g_ald rfl (gA_206 (by omega)) (by decide) (show 5 = nI 5 from (show (5 : Int32) = nI 5 from rfl)) (by decide) (show _ = S (213 + 7 * n2 + 5) from (hD.deb 5 (by omega) (by decide))) ?_
    have t6 := (hI.deb (k := n2) (by omega)).2.2.2.1
    have t6b := t6.2
    have t7 := (hI.deb (k := n2) (by omega)).2.2.2.2.2.1
    have t7b := t7.2
    refine gW_eq (st' := [vI (nI (sn S (213 + 7 * n2 + 5))), vI (nI (sn S (213 + 7 * n2 + 3))), vR 200, vI (nI (pgf S (sn S (213 + 7 * n2 + 3)) (sn S (213 + 7 * n2 + 4))))]) rfl (by rw [(show S (213 + 7 * n2 + 3) = nI (sn S (213 + 7 * n2 + 3)) from t6.1), (show S (213 + 7 * n2 + 5) = nI (sn S (213 + 7 * n2 + 5)) from t7.1)]) rfl ?_
    refine g_cV1 rfl (args := [vR 200, vI (nI (sn S (213 + 7 * n2 + 3))), vI (nI (sn S (213 + 7 * n2 + 5)))]) (rest := [vI (nI (pgf S (sn S (213 + 7 * n2 + 3)) (sn S (213 + 7 * n2 + 4))))]) rfl rfl rfl (s_109 (d := d + 1) hI hL hD (by omega) (by omega)) ?_
    have t8 := (pgf_ok hI (v := (sn S (213 + 7 * n2 + 3))) (e := (sn S (213 + 7 * n2 + 5))) (by omega) (by omega)).1
    refine g_pure 1 (i' := 30) (lv' := [some (vR 0), some (vI (nI n2)), some (vR (234 + n2)), some (vI (S (213 + 7 * n2 + 3)))]) (st' := [vI (nI (pgf S (sn S (213 + 7 * n2 + 3)) (sn S (213 + 7 * n2 + 4))) - nI (pgf S (sn S (213 + 7 * n2 + 3)) (sn S (213 + 7 * n2 + 5))))]) rfl ?_
    refine g_iret rfl ?_
    exact o1 n2 rfl ln2
  · refine gW_eq (st' := [vI x, vI (nI 4), vR 0]) rfl (by rw [(show (4 : Int32) = nI 4 from rfl)]) rfl ?_
    refine g_cVx rfl (args := [vR 0, vI (nI 4), vI x]) (rest := []) rfl rfl rfl (s_140x (d := d) hI hL hD (by omega) (by assumption)) ?_
    exact o2 h1

theorem c_early {X : Nat × (Nat → Int32)} {d : Nat} {p : Nat → Nat} {sg : Mg} {B : Nat} {S : Nat → Int32} (hI : Inv B S) (hL : cwL 250 sg S) (hD : cwD 200 sg S) {x : Int32} : gF X (d + 3) 173 [vR 0, vI x] p sg (oC p sg (fun _ => 2) (earlyR S x)) := by
  have b0 := hI.b0; have b1 := hI.b1; have b2 := hI.b2; have b3 := hI.b3; have b4 := hI.b4; have b5 := hI.b5; have b9 := hI.b9; have b14 := hI.b14
  refine g_in (cd := k_173) (nL := 4) (rc := 12) rfl (g_A (a := 0) (kd := 0) (n := 11) rfl (by decide)) (g_c1 rfl) (b_173_0 hI hL hD (fun n1 e1 l1 => oC_0 ?_) (fun h1 => oC_x (c := 0) ?_ rfl))
  · subst e1
    unfold earlyR
    rw [if_pos ((okx_nI (by omega)).mpr (by omega))]
    try simp (disch := omega) only [nI_clamp]
    try exact congrArg (fun j => ((0, S j) : Nat × Int32)) (by omega)
    try (split <;> first | rfl | contradiction)
    try rfl
  · skip
    unfold earlyR
    rw [if_neg h1]

theorem b_298_0 {X : Nat × (Nat → Int32)} {d : Nat} {p : Nat → Nat} {sg : Mg} {Q : am_R → Prop} {B : Nat} {S : Nat → Int32} (hI : Inv B S) (hS : sg 801 = S) {x : Int32}
    (o1 : ∀ s1 : Mg, s1 = mu sg 800 0 0 → ∀ n3 : Nat, x = nI n3 → n3 < sn S 4 → Q (gRv p s1 (nI (pgf S (sn S (213 + 7 * n3 + 3)) (sn S (213 + 7 * n3 + 4))) - nI (pgf S (sn S (213 + 7 * n3 + 3)) (sn S (213 + 7 * n3 + 5))))))
    (o2 : ∀ s1 : Mg, s1 = mu sg 800 0 0 → (¬ okx x (sn S 4)) → ∀ s11 : Mg, s11 = mu s1 800 0 (nI 1) → Q (gRv p s11 0)) :
    gW X (d + 2) k_298 0 [some (vR 800), some (vI x), none] [] p sg Q := by
  have b0 := hI.b0; have b1 := hI.b1; have b2 := hI.b2; have b3 := hI.b3; have b4 := hI.b4; have b5 := hI.b5; have b6 := hI.b6; have b7 := hI.b7; have b8 := hI.b8; have b9 := hI.b9; have b14 := hI.b14
  refine g_pure 2 (i' := 2) (lv' := [some (vR 800), some (vI x), none]) (st' := [vI 0, vR 800]) rfl ?_
  refine g_putI rfl (g_A (a := 800) (kd := 0) (n := 12) rfl (by decide)) ?_
  refine g_setv (fun s1 es1 => ?_)
  have hSs1 : s1 801 = S := by rw [es1, mu_ne (by decide), hS]
  refine g_pure 6 (i' := 9) (lv' := [some (vR 800), some (vI x), none]) (st' := [vI 4, vR 801, vI 0, vI x, vR 800]) rfl ?_
  refine g_ald rfl (g_A (a := 801) (kd := 1) (n := 2407) rfl (by decide)) (by decide) (show 4 = nI 4 from (show (4 : Int32) = nI 4 from rfl)) (by decide) (show _ = S 4 from (congrFun hSs1 4)) ?_
  refine g_pure 1 (i' := 11) (lv' := [some (vR 800), some (vI x), none]) (st' := [vI 1, vI (S 4), vI 0, vI x, vR 800]) rfl ?_
  refine gW_eq (lv' := [some (vR 800), some (vI x), none]) (st' := [vI 1, vI (nI (sn S 4)), vI 0, vI x, vR 800]) rfl (by rw [(show S 4 = nI (sn S 4) from (hI.c4))]) rfl ?_
  refine g_pure 1 (i' := 12) (lv' := [some (vR 800), some (vI x), none]) (st' := [vI (nI (sn S 4) - 1), vI 0, vI x, vR 800]) rfl ?_
  refine g_cS1 rfl (args := [vI x, vI 0, vI (nI (sn S 4) - 1)]) (rest := [vR 800]) rfl rfl rfl (s_231x (d := d + 1) (by omega)) ?_
  refine g_if1 (i' := 16) (P := okx x (sn S 4)) rfl rfl g_neB (fun h2 => ?_) (fun h2 => ?_)
  · obtain ⟨n3, ln3, en3⟩ := okx_of h2
    subst en3
    refine g_pure 2 (i' := 18) (lv' := [some (vR 800), some (vI (nI n3)), none]) (st' := [vI 1, vI 0, vR 800]) rfl ?_
    refine gW_eq (st' := [vI (nI 1), vI 0, vR 800]) rfl (by rw [(show (1 : Int32) = nI 1 from rfl)]) rfl ?_
    refine g_cV1 rfl (args := [vR 800, vI 0, vI (nI 1)]) (rest := []) rfl rfl rfl (s_227f (d := d + 1) (by omega)) ?_
    refine g_if1 (i' := 22) (P := 0 = 0) rfl rfl (g_eqN (show 0 = nI 0 from (show (0 : Int32) = nI 0 from rfl)) (show 0 = nI 0 from (show (0 : Int32) = nI 0 from rfl)) (by omega) (by omega)) (fun _ => ?_) (fun h4 => absurd (by omega) h4)
    refine g_pure 3 (i' := 25) (lv' := [some (vR 800), some (vI (nI n3)), none]) (st' := [vI 3, vI (nI n3), vR 800]) rfl ?_
    refine gW_eq (st' := [vI (nI 3), vI (nI n3), vR 800]) rfl (by rw [(show (3 : Int32) = nI 3 from rfl)]) rfl ?_
    refine g_cV1 rfl (args := [vR 800, vI (nI n3), vI (nI 3)]) (rest := []) rfl rfl rfl (s_243 (d := d + 1) hSs1 (by omega) (by omega)) ?_
    refine g_pure 6 (i' := 32) (lv' := [some (vR 800), some (vI (nI n3)), some (vI (S (213 + 7 * n3 + 3)))]) (st' := [vI 4, vI (nI n3), vR 800, vI (S (213 + 7 * n3 + 3)), vR 800]) rfl ?_
    refine gW_eq (st' := [vI (nI 4), vI (nI n3), vR 800, vI (S (213 + 7 * n3 + 3)), vR 800]) rfl (by rw [(show (4 : Int32) = nI 4 from rfl)]) rfl ?_
    refine g_cV1 rfl (args := [vR 800, vI (nI n3), vI (nI 4)]) (rest := [vI (S (213 + 7 * n3 + 3)), vR 800]) rfl rfl rfl (s_243 (d := d + 1) hSs1 (by omega) (by omega)) ?_
    have t5 := (hI.deb (k := n3) (by omega)).2.2.2.1
    have t5b := t5.2
    have t6 := (hI.deb (k := n3) (by omega)).2.2.2.2.1
    have t6b := t6.2
    refine gW_eq (st' := [vI (nI (sn S (213 + 7 * n3 + 4))), vI (nI (sn S (213 + 7 * n3 + 3))), vR 800]) rfl (by rw [(show S (213 + 7 * n3 + 3) = nI (sn S (213 + 7 * n3 + 3)) from t5.1), (show S (213 + 7 * n3 + 4) = nI (sn S (213 + 7 * n3 + 4)) from t6.1)]) rfl ?_
    refine g_cV1 rfl (args := [vR 800, vI (nI (sn S (213 + 7 * n3 + 3))), vI (nI (sn S (213 + 7 * n3 + 4)))]) (rest := []) rfl rfl rfl (s_216 (d := d) hI hSs1 (by omega) (by omega)) ?_
    have t7 := (pgf_ok hI (v := (sn S (213 + 7 * n3 + 3))) (e := (sn S (213 + 7 * n3 + 4))) (by omega) (by omega)).1
    refine g_pure 5 (i' := 39) (lv' := [some (vR 800), some (vI (nI n3)), some (vI (S (213 + 7 * n3 + 3)))]) (st' := [vI 5, vI (nI n3), vR 800, vI (S (213 + 7 * n3 + 3)), vR 800, vI (nI (pgf S (sn S (213 + 7 * n3 + 3)) (sn S (213 + 7 * n3 + 4))))]) rfl ?_
    refine gW_eq (st' := [vI (nI 5), vI (nI n3), vR 800, vI (S (213 + 7 * n3 + 3)), vR 800, vI (nI (pgf S (sn S (213 + 7 * n3 + 3)) (sn S (213 + 7 * n3 + 4))))]) rfl (by rw [(show (5 : Int32) = nI 5 from rfl)]) rfl ?_
    refine g_cV1 rfl (args := [vR 800, vI (nI n3), vI (nI 5)]) (rest := [vI (S (213 + 7 * n3 + 3)), vR 800, vI (nI (pgf S (sn S (213 + 7 * n3 + 3)) (sn S (213 + 7 * n3 + 4))))]) rfl rfl rfl (s_243 (d := d + 1) hSs1 (by omega) (by omega)) ?_
    have t8 := (hI.deb (k := n3) (by omega)).2.2.2.1
    have t8b := t8.2
    have t9 := (hI.deb (k := n3) (by omega)).2.2.2.2.2.1
    have t9b := t9.2
    refine gW_eq (st' := [vI (nI (sn S (213 + 7 * n3 + 5))), vI (nI (sn S (213 + 7 * n3 + 3))), vR 800, vI (nI (pgf S (sn S (213 + 7 * n3 + 3)) (sn S (213 + 7 * n3 + 4))))]) rfl (by rw [(show S (213 + 7 * n3 + 3) = nI (sn S (213 + 7 * n3 + 3)) from t8.1), (show S (213 + 7 * n3 + 5) = nI (sn S (213 + 7 * n3 + 5)) from t9.1)]) rfl ?_
    refine g_cV1 rfl (args := [vR 800, vI (nI (sn S (213 + 7 * n3 + 3))), vI (nI (sn S (213 + 7 * n3 + 5)))]) (rest := [vI (nI (pgf S (sn S (213 + 7 * n3 + 3)) (sn S (213 + 7 * n3 + 4))))]) rfl rfl rfl (s_216 (d := d) hI hSs1 (by omega) (by omega)) ?_
    have t10 := (pgf_ok hI (v := (sn S (213 + 7 * n3 + 3))) (e := (sn S (213 + 7 * n3 + 5))) (by omega) (by omega)).1
    refine g_pure 1 (i' := 42) (lv' := [some (vR 800), some (vI (nI n3)), some (vI (S (213 + 7 * n3 + 3)))]) (st' := [vI (nI (pgf S (sn S (213 + 7 * n3 + 3)) (sn S (213 + 7 * n3 + 4))) - nI (pgf S (sn S (213 + 7 * n3 + 3)) (sn S (213 + 7 * n3 + 5))))]) rfl ?_
    refine g_iret rfl ?_
    exact o1 s1 es1 n3 rfl ln3
  · refine g_pure 3 (i' := 18) (lv' := [some (vR 800), some (vI x), none]) (st' := [vI 1, vI 1, vR 800]) rfl ?_
    refine gW_eq (st' := [vI (nI 1), vI 1, vR 800]) rfl (by rw [(show (1 : Int32) = nI 1 from rfl)]) rfl ?_
    refine g_cV1 rfl (args := [vR 800, vI 1, vI (nI 1)]) (rest := []) rfl rfl rfl (s_227t (d := d + 1) (by omega)) ?_
    refine g_setv (fun s11 es11 => ?_)
    have hSs11 : s11 801 = S := by rw [es11, mu_ne (by decide), hSs1]
    refine g_if1 (i' := 22) (P := 1 = 0) rfl rfl (g_eqN (show 1 = nI 1 from (show (1 : Int32) = nI 1 from rfl)) (show 0 = nI 0 from (show (0 : Int32) = nI 0 from rfl)) (by omega) (by omega)) (fun h12 => absurd h12 (by omega)) (fun _ => ?_)
    refine g_pure 1 (i' := 21) (lv' := [some (vR 800), some (vI x), none]) (st' := [vI 0]) rfl ?_
    refine g_iret rfl ?_
    exact o2 s1 es1 h2 s11 es11

theorem m_early {X : Nat × (Nat → Int32)} {d : Nat} {p : Nat → Nat} {sg : Mg} {B : Nat} {S : Nat → Int32} (hI : Inv B S) (hS : sg 801 = S) {x : Int32} : gF X (d + 3) 298 [vR 800, vI x] p sg (oM p sg (earlyR S x)) := by
  have b0 := hI.b0; have b1 := hI.b1; have b2 := hI.b2; have b3 := hI.b3; have b4 := hI.b4; have b5 := hI.b5; have b9 := hI.b9; have b14 := hI.b14
  refine g_in (cd := k_298) (nL := 3) (rc := 13) rfl (g_A (a := 800) (kd := 0) (n := 12) rfl (by decide)) (g_c1 rfl) (b_298_0 hI hS (fun s1 f1 n2 e2 l2 => oM_0 f1 ?_) (fun s1 f1 h2 s3 f3 => oM_x (c := 0) f1 f3 ?_))
  · subst e2
    unfold earlyR
    rw [if_pos ((okx_nI (by omega)).mpr (by omega))]
    try simp (disch := omega) only [nI_clamp]
    try exact congrArg (fun j => ((0, S j) : Nat × Int32)) (by omega)
    try (split <;> first | rfl | contradiction)
    try rfl
  · skip
    unfold earlyR
    rw [if_neg h2]

theorem b_61_n {X : Nat × (Nat → Int32)} {d : Nat} {p : Nat → Nat} {sg : Mg} {Q : am_R → Prop} {B : Nat} {S : Nat → Int32} (hI : Inv B S) (hL : cwL 250 sg S) (hD : cwD 200 sg S) {x : Nat} {c : Nat} (u_x : x ≤ 99) (u_c : c ≤ 3) (q1 : x < sn S 14)
    (o1 : (x < sn S 14) → Q (gRv p sg (sg 261 (4 * ((sn S 14 - 1) - x) + c))))
    (o2 : (¬ (x < sn S 14)) → Q (gRv p sg (-1))) :
    gW X (d) k_61 0 [some (vR 250), some (vI (nI x)), some (vI (nI c))] [] p sg Q := by
  have b0 := hI.b0; have b1 := hI.b1; have b2 := hI.b2; have b3 := hI.b3; have b4 := hI.b4; have b5 := hI.b5; have b6 := hI.b6; have b7 := hI.b7; have b8 := hI.b8; have b9 := hI.b9; have b14 := hI.b14
  refine g_pure 1 (i' := 1) (lv' := [some (vR 250), some (vI (nI x)), some (vI (nI c))]) (st' := [vI (nI x)]) rfl ?_
  refine g_if1 (i' := 6) (P := x < 0) rfl rfl (g_ltN (show nI x = nI x from (rfl : nI x = nI x)) (show 0 = nI 0 from (show (0 : Int32) = nI 0 from rfl)) (by omega) (by omega)) (fun h1 => absurd h1 (by omega)) (fun _ => ?_)
  refine g_pure 2 (i' := 4) (lv' := [some (vR 250), some (vI (nI x)), some (vI (nI c))]) (st' := [vR 250, vI (nI x)]) rfl ?_
  refine g_getI rfl (g_A (a := 250) (kd := 0) (n := 6) rfl (by decide)) (show _ = S 14 from hL.f11) ?_
  refine g_if2 (i' := 8) (P := x < sn S 14) rfl rfl (g_ltN (show nI x = nI x from (rfl : nI x = nI x)) (show S 14 = nI (sn S 14) from (hI.c14)) (by omega) (by omega)) (fun h2 => ?_) (fun h2 => ?_)
  · refine g_pure 3 (i' := 11) (lv' := [some (vR 250), some (vI (nI x)), some (vI (nI c))]) (st' := [vR 250, vR 261]) rfl ?_
    refine g_getI rfl (g_A (a := 250) (kd := 0) (n := 6) rfl (by decide)) (show _ = S 14 from hL.f11) ?_
    refine g_pure 1 (i' := 13) (lv' := [some (vR 250), some (vI (nI x)), some (vI (nI c))]) (st' := [vI 1, vI (S 14), vR 261]) rfl ?_
    refine gW_eq (lv' := [some (vR 250), some (vI (nI x)), some (vI (nI c))]) (st' := [vI 1, vI (nI (sn S 14)), vR 261]) rfl (by rw [(show S 14 = nI (sn S 14) from (hI.c14))]) rfl ?_
    refine g_pure 2 (i' := 15) (lv' := [some (vR 250), some (vI (nI x)), some (vI (nI c))]) (st' := [vI (nI x), vI (nI (sn S 14) - 1), vR 261]) rfl ?_
    refine gW_eq (lv' := [some (vR 250), some (vI (nI x)), some (vI (nI c))]) (st' := [vI (nI x), vI (nI (sn S 14 - 1)), vR 261]) rfl (by rw [(show (nI (sn S 14) - 1) = nI (sn S 14 - 1) from (g_sub (rfl : nI (sn S 14) = nI (sn S 14)) (show (1 : Int32) = nI 1 from rfl) (by omega)))]) rfl ?_
    refine g_pure 5 (i' := 20) (lv' := [some (vR 250), some (vI (nI x)), some (vI (nI c))]) (st' := [vI (((nI (sn S 14 - 1) - nI x) * 4) + nI c), vR 261]) rfl ?_
    refine gW_eq (lv' := [some (vR 250), some (vI (nI x)), some (vI (nI c))]) (st' := [vI (nI (4 * ((sn S 14 - 1) - x) + c)), vR 261]) rfl (by rw [(show (((nI (sn S 14 - 1) - nI x) * 4) + nI c) = nI (4 * ((sn S 14 - 1) - x) + c) from ((g_add (g_mul (g_sub (rfl : nI (sn S 14 - 1) = nI (sn S 14 - 1)) (rfl : nI x = nI x) (by omega)) (show (4 : Int32) = nI 4 from rfl)) (rfl : nI c = nI c))).trans (congrArg nI (by omega)))]) rfl ?_
    refine g_ald rfl (g_A (a := 261) (kd := 1) (n := 400) rfl (by decide)) (by decide) (show nI (4 * ((sn S 14 - 1) - x) + c) = nI (4 * ((sn S 14 - 1) - x) + c) from (rfl : nI (4 * ((sn S 14 - 1) - x) + c) = nI (4 * ((sn S 14 - 1) - x) + c))) (by omega) (show _ = sg 261 (4 * ((sn S 14 - 1) - x) + c) from rfl) ?_
    refine g_iret rfl ?_
    exact o1 h2
  · refine g_pure 1 (i' := 7) (lv' := [some (vR 250), some (vI (nI x)), some (vI (nI c))]) (st' := [vI (-1)]) rfl ?_
    refine g_iret rfl ?_
    exact o2 h2

theorem b_61_r {X : Nat × (Nat → Int32)} {d : Nat} {p : Nat → Nat} {sg : Mg} {Q : am_R → Prop} {B : Nat} {S : Nat → Int32} (hI : Inv B S) (hL : cwL 250 sg S) (hD : cwD 200 sg S) {x : Int32} {c : Nat} (u_c : c ≤ 3)
    (o1 : (x < 0) → Q (gRv p sg (-1)))
    (o2 : (¬ (x < 0)) → (x < S 14) → ∃ k, ((((S 14 - 1) - x) * 4) + nI c) = nI k ∧ k < 400)
    (o3 : (¬ (x < 0)) → (x < S 14) → ∀ k3 : Nat, ((((S 14 - 1) - x) * 4) + nI c) = nI k3 → k3 < 400 → Q (gRv p sg (sg 261 k3)))
    (o4 : (¬ (x < 0)) → (¬ (x < S 14)) → Q (gRv p sg (-1))) :
    gW X (d) k_61 0 [some (vR 250), some (vI x), some (vI (nI c))] [] p sg Q := by
  have b0 := hI.b0; have b1 := hI.b1; have b2 := hI.b2; have b3 := hI.b3; have b4 := hI.b4; have b5 := hI.b5; have b6 := hI.b6; have b7 := hI.b7; have b8 := hI.b8; have b9 := hI.b9; have b14 := hI.b14
  refine g_pure 1 (i' := 1) (lv' := [some (vR 250), some (vI x), some (vI (nI c))]) (st' := [vI x]) rfl ?_
  refine g_if1 (i' := 6) (P := x < 0) rfl rfl Iff.rfl (fun h1 => ?_) (fun h1 => ?_)
  · refine g_pure 1 (i' := 7) (lv' := [some (vR 250), some (vI x), some (vI (nI c))]) (st' := [vI (-1)]) rfl ?_
    refine g_iret rfl ?_
    exact o1 h1
  · refine g_pure 2 (i' := 4) (lv' := [some (vR 250), some (vI x), some (vI (nI c))]) (st' := [vR 250, vI x]) rfl ?_
    refine g_getI rfl (g_A (a := 250) (kd := 0) (n := 6) rfl (by decide)) (show _ = S 14 from hL.f11) ?_
    refine g_if2 (i' := 8) (P := x < S 14) rfl rfl Iff.rfl (fun h2 => ?_) (fun h2 => ?_)
    · refine g_pure 3 (i' := 11) (lv' := [some (vR 250), some (vI x), some (vI (nI c))]) (st' := [vR 250, vR 261]) rfl ?_
      refine g_getI rfl (g_A (a := 250) (kd := 0) (n := 6) rfl (by decide)) (show _ = S 14 from hL.f11) ?_
      refine g_pure 8 (i' := 20) (lv' := [some (vR 250), some (vI x), some (vI (nI c))]) (st' := [vI ((((S 14 - 1) - x) * 4) + nI c), vR 261]) rfl ?_
      obtain ⟨k3, ek3, lk3⟩ := o2 h1 h2
      refine g_ald rfl (g_A (a := 261) (kd := 1) (n := 400) rfl (by decide)) (by decide) (show ((((S 14 - 1) - x) * 4) + nI c) = nI k3 from ek3) (by omega) (show _ = sg 261 k3 from rfl) ?_
      refine g_iret rfl ?_
      exact o3 h1 h2 k3 ek3 lk3
    · refine g_pure 1 (i' := 7) (lv' := [some (vR 250), some (vI x), some (vI (nI c))]) (st' := [vI (-1)]) rfl ?_
      refine g_iret rfl ?_
      exact o4 h1 h2

theorem s_61o {X : Nat × (Nat → Int32)} {d : Nat} {p : Nat → Nat} {sg : Mg} {B : Nat} {S : Nat → Int32} (hI : Inv B S) (hL : cwL 250 sg S) (hD : cwD 200 sg S) {k c : Nat} (hk : k < sn S 14) (hc : c ≤ 3) : gF X (d + 1) 61 [vR 250, vI (nI k), vI (nI c)] p sg (fun r => r = gRv p sg (S (309 + 4 * k + c))) := by
  have b14 := hI.b14
  refine g_in (cd := k_61) (nL := 3) (rc := 7) rfl (g_A (a := 250) (kd := 0) (n := 6) rfl (by decide)) (g_c1 rfl) (b_61_n hI hL hD (by omega) hc hk ?_ ?_)
  · intro _
    rw [← hL.log c hk (by omega)]
  · intro h
    omega
theorem s_61x {X : Nat × (Nat → Int32)} {d : Nat} {p : Nat → Nat} {sg : Mg} {B : Nat} {S : Nat → Int32} (hI : Inv B S) (hL : cwL 250 sg S) (hD : cwD 200 sg S) {x : Int32} {c : Nat} (hx : ¬ okx x (sn S 14)) (hc : c ≤ 3) : gF X (d + 1) 61 [vR 250, vI x, vI (nI c)] p sg (fun r => r = gRv p sg (-1)) := by
  have b14 := hI.b14
  have hx' : ¬ (¬ x < 0 ∧ x < S 14) := fun h => hx ((okx_lt hI.c14 (by omega)).mp h)
  exact g_in (cd := k_61) (nL := 3) (rc := 7) rfl (g_A (a := 250) (kd := 0) (n := 6) rfl (by decide)) (g_c1 rfl) (b_61_r hI hL hD hc (fun _ => rfl) (fun h1 h2 => absurd ⟨h1, h2⟩ hx') (fun h1 h2 => absurd ⟨h1, h2⟩ hx') (fun _ _ => rfl))

def logR (S : Nat → Int32) (x : Int32) (y : Int32) : Nat × Int32 := if okx y (4) then ((0, (if okx x (sn S 14) then S (309 + 4 * x.toNatClampNeg + y.toNatClampNeg) else -1))) else (1, 0)

theorem b_177_0 {X : Nat × (Nat → Int32)} {d : Nat} {p : Nat → Nat} {sg : Mg} {Q : am_R → Prop} {B : Nat} {S : Nat → Int32} (hI : Inv B S) (hL : cwL 250 sg S) (hD : cwD 200 sg S) {x : Int32} {y : Int32}
    (o1 : ∀ n2 : Nat, y = nI n2 → n2 < 4 → ∀ n4 : Nat, x = nI n4 → n4 < sn S 14 → Q (gRv p sg (S (309 + 4 * n4 + n2))))
    (o2 : ∀ n2 : Nat, y = nI n2 → n2 < 4 → (¬ okx x (sn S 14)) → Q (gRv p sg (-1)))
    (o3 : (¬ okx y 4) → Q (gRx p sg 3)) :
    gW X (d + 2) k_177 0 [some (vR 0), some (vI x), some (vI y)] [] p sg Q := by
  have b0 := hI.b0; have b1 := hI.b1; have b2 := hI.b2; have b3 := hI.b3; have b4 := hI.b4; have b5 := hI.b5; have b6 := hI.b6; have b7 := hI.b7; have b8 := hI.b8; have b9 := hI.b9; have b14 := hI.b14
  refine g_pure 2 (i' := 2) (lv' := [some (vR 0), some (vI x), some (vI y)]) (st' := [vI 4, vI y]) rfl ?_
  by_cases h1 : okx y 4
  · obtain ⟨n2, ln2, en2⟩ := okx_of h1
    subst en2
    refine gW_eq (st' := [vI (nI 4), vI (nI n2)]) rfl (by rw [(show (4 : Int32) = nI 4 from rfl)]) rfl ?_
    refine g_cS0 rfl (args := [vI (nI n2), vI (nI 4)]) (rest := []) rfl rfl rfl (s_147o (d := d + 1) (by omega) ((okx_nI (by omega)).mpr (by omega))) ?_
    refine g_pure 5 (i' := 8) (lv' := [some (vR 0), some (vI x), some (vI (nI n2))]) (st' := [vI (nI n2), vI x, vR 250]) rfl ?_
    by_cases h3 : okx x (sn S 14)
    · obtain ⟨n4, ln4, en4⟩ := okx_of h3
      subst en4
      refine g_cV1 rfl (args := [vR 250, vI (nI n4), vI (nI n2)]) (rest := []) rfl rfl rfl (s_61o (d := d + 1) hI hL hD (by omega) (by omega)) ?_
      refine g_iret rfl ?_
      exact o1 n2 rfl ln2 n4 rfl ln4
    · refine g_cV1 rfl (args := [vR 250, vI x, vI (nI n2)]) (rest := []) rfl rfl rfl (s_61x (d := d + 1) hI hL hD (by assumption) (by omega)) ?_
      refine g_iret rfl ?_
      exact o2 n2 rfl ln2 h3
  · refine gW_eq (st' := [vI (nI 4), vI y]) rfl (by rw [(show (4 : Int32) = nI 4 from rfl)]) rfl ?_
    refine g_cSx rfl (args := [vI y, vI (nI 4)]) (rest := []) rfl rfl rfl (s_147x (d := d + 1) (by omega) (by assumption)) ?_
    exact o3 h1

theorem c_log {X : Nat × (Nat → Int32)} {d : Nat} {p : Nat → Nat} {sg : Mg} {B : Nat} {S : Nat → Int32} (hI : Inv B S) (hL : cwL 250 sg S) (hD : cwD 200 sg S) {x : Int32} {y : Int32} : gF X (d + 3) 177 [vR 0, vI x, vI y] p sg (oC p sg (fun _ => 3) (logR S x y)) := by
  have b0 := hI.b0; have b1 := hI.b1; have b2 := hI.b2; have b3 := hI.b3; have b4 := hI.b4; have b5 := hI.b5; have b9 := hI.b9; have b14 := hI.b14
  refine g_in (cd := k_177) (nL := 3) (rc := 12) rfl (g_A (a := 0) (kd := 0) (n := 11) rfl (by decide)) (g_c1 rfl) (b_177_0 hI hL hD (fun n1 e1 l1 n2 e2 l2 => oC_0 ?_) (fun n1 e1 l1 h2 => oC_0 ?_) (fun h1 => oC_x (c := 0) ?_ rfl))
  · subst e1 e2
    unfold logR
    rw [if_pos ((okx_nI (by omega)).mpr (by omega))]
    try simp (disch := omega) only [nI_clamp]
    rw [if_pos ((okx_nI (by omega)).mpr (by omega))]
  · subst e1
    unfold logR
    rw [if_pos ((okx_nI (by omega)).mpr (by omega))]
    try simp (disch := omega) only [nI_clamp]
    try exact congrArg (fun j => ((0, S j) : Nat × Int32)) (by omega)
    try (split <;> first | rfl | contradiction)
    try rfl
  · skip
    unfold logR
    rw [if_neg h1]

theorem b_310_0 {X : Nat × (Nat → Int32)} {d : Nat} {p : Nat → Nat} {sg : Mg} {Q : am_R → Prop} {B : Nat} {S : Nat → Int32} (hI : Inv B S) (hS : sg 801 = S) {x : Int32} {y : Int32}
    (o1 : ∀ s1 : Mg, s1 = mu sg 800 0 0 → ∀ n3 : Nat, y = nI n3 → 0 ≤ n3 ∧ n3 ≤ 3 → (¬ okx x (sn S 14)) → Q (gRv p s1 (-1)))
    (o2 : ∀ s1 : Mg, s1 = mu sg 800 0 0 → ∀ n3 : Nat, y = nI n3 → 0 ≤ n3 ∧ n3 ≤ 3 → ∀ n6 : Nat, x = nI n6 → n6 < sn S 14 → Q (gRv p s1 (S (309 + 4 * n6 + n3))))
    (o3 : ∀ s1 : Mg, s1 = mu sg 800 0 0 → (¬ (¬ (y < 0) ∧ ¬ (3 < y))) → ∀ s7 : Mg, s7 = mu s1 800 0 (nI 1) → Q (gRv p s7 0)) :
    gW X (d + 1) k_310 0 [some (vR 800), some (vI x), some (vI y)] [] p sg Q := by
  have b0 := hI.b0; have b1 := hI.b1; have b2 := hI.b2; have b3 := hI.b3; have b4 := hI.b4; have b5 := hI.b5; have b6 := hI.b6; have b7 := hI.b7; have b8 := hI.b8; have b9 := hI.b9; have b14 := hI.b14
  refine g_pure 2 (i' := 2) (lv' := [some (vR 800), some (vI x), some (vI y)]) (st' := [vI 0, vR 800]) rfl ?_
  refine g_putI rfl (g_A (a := 800) (kd := 0) (n := 12) rfl (by decide)) ?_
  refine g_setv (fun s1 es1 => ?_)
  have hSs1 : s1 801 = S := by rw [es1, mu_ne (by decide), hS]
  refine g_pure 4 (i' := 7) (lv' := [some (vR 800), some (vI x), some (vI y)]) (st' := [vI 3, vI 0, vI y, vR 800]) rfl ?_
  refine g_cS1 rfl (args := [vI y, vI 0, vI 3]) (rest := [vR 800]) rfl rfl rfl (s_231 (d := d) ) ?_
  refine g_if1 (i' := 11) (P := (¬ (y < 0) ∧ ¬ (3 < y))) rfl rfl g_neB (fun h2 => ?_) (fun h2 => ?_)
  · obtain ⟨n3, ln3, en3⟩ := okr_of (lo := 0) (hi := 3) (by decide) h2
    subst en3
    refine g_pure 2 (i' := 13) (lv' := [some (vR 800), some (vI x), some (vI (nI n3))]) (st' := [vI 1, vI 0, vR 800]) rfl ?_
    refine gW_eq (st' := [vI (nI 1), vI 0, vR 800]) rfl (by rw [(show (1 : Int32) = nI 1 from rfl)]) rfl ?_
    refine g_cV1 rfl (args := [vR 800, vI 0, vI (nI 1)]) (rest := []) rfl rfl rfl (s_227f (d := d) (by omega)) ?_
    refine g_if1 (i' := 17) (P := 0 = 0) rfl rfl (g_eqN (show 0 = nI 0 from (show (0 : Int32) = nI 0 from rfl)) (show 0 = nI 0 from (show (0 : Int32) = nI 0 from rfl)) (by omega) (by omega)) (fun _ => ?_) (fun h4 => absurd (by omega) h4)
    refine g_pure 5 (i' := 22) (lv' := [some (vR 800), some (vI x), some (vI (nI n3))]) (st' := [vI 14, vR 801, vI 0, vI x]) rfl ?_
    refine g_ald rfl (g_A (a := 801) (kd := 1) (n := 2407) rfl (by decide)) (by decide) (show 14 = nI 14 from (show (14 : Int32) = nI 14 from rfl)) (by decide) (show _ = S 14 from (congrFun hSs1 14)) ?_
    refine g_pure 1 (i' := 24) (lv' := [some (vR 800), some (vI x), some (vI (nI n3))]) (st' := [vI 1, vI (S 14), vI 0, vI x]) rfl ?_
    refine gW_eq (lv' := [some (vR 800), some (vI x), some (vI (nI n3))]) (st' := [vI 1, vI (nI (sn S 14)), vI 0, vI x]) rfl (by rw [(show S 14 = nI (sn S 14) from (hI.c14))]) rfl ?_
    refine g_pure 1 (i' := 25) (lv' := [some (vR 800), some (vI x), some (vI (nI n3))]) (st' := [vI (nI (sn S 14) - 1), vI 0, vI x]) rfl ?_
    refine g_cS1 rfl (args := [vI x, vI 0, vI (nI (sn S 14) - 1)]) (rest := []) rfl rfl rfl (s_231x (d := d) (by omega)) ?_
    refine g_if1 (i' := 38) (P := ¬ okx x (sn S 14)) rfl rfl g_eqB (fun h5 => ?_) (fun h5 => ?_)
    · refine g_pure 1 (i' := 39) (lv' := [some (vR 800), some (vI x), some (vI (nI n3))]) (st' := [vI (-1)]) rfl ?_
      refine g_iret rfl ?_
      exact o1 s1 es1 n3 rfl ln3 h5
    · have h5 := Classical.not_not.mp h5
      obtain ⟨n6, ln6, en6⟩ := okx_of h5
      subst en6
      refine g_pure 9 (i' := 36) (lv' := [some (vR 800), some (vI (nI n6)), some (vI (nI n3))]) (st' := [vI ((309 + (4 * nI n6)) + nI n3), vR 801]) rfl ?_
      refine gW_eq (lv' := [some (vR 800), some (vI (nI n6)), some (vI (nI n3))]) (st' := [vI (nI (309 + 4 * n6 + n3)), vR 801]) rfl (by rw [(show ((309 + (4 * nI n6)) + nI n3) = nI (309 + 4 * n6 + n3) from ((g_add (g_add (show (309 : Int32) = nI 309 from rfl) (g_mul (show (4 : Int32) = nI 4 from rfl) (rfl : nI n6 = nI n6))) (rfl : nI n3 = nI n3))).trans (congrArg nI (by omega)))]) rfl ?_
      refine g_ald rfl (g_A (a := 801) (kd := 1) (n := 2407) rfl (by decide)) (by decide) (show nI (309 + 4 * n6 + n3) = nI (309 + 4 * n6 + n3) from (rfl : nI (309 + 4 * n6 + n3) = nI (309 + 4 * n6 + n3))) (by omega) (show _ = S (309 + 4 * n6 + n3) from (congrFun hSs1 (309 + 4 * n6 + n3))) ?_
      refine g_pure 1 (i' := 39) (lv' := [some (vR 800), some (vI (nI n6)), some (vI (nI n3))]) (st' := [vI (S (309 + 4 * n6 + n3))]) rfl ?_
      refine g_iret rfl ?_
      exact o2 s1 es1 n3 rfl ln3 n6 rfl ln6
  · refine g_pure 3 (i' := 13) (lv' := [some (vR 800), some (vI x), some (vI y)]) (st' := [vI 1, vI 1, vR 800]) rfl ?_
    refine gW_eq (st' := [vI (nI 1), vI 1, vR 800]) rfl (by rw [(show (1 : Int32) = nI 1 from rfl)]) rfl ?_
    refine g_cV1 rfl (args := [vR 800, vI 1, vI (nI 1)]) (rest := []) rfl rfl rfl (s_227t (d := d) (by omega)) ?_
    refine g_setv (fun s7 es7 => ?_)
    have hSs7 : s7 801 = S := by rw [es7, mu_ne (by decide), hSs1]
    refine g_if1 (i' := 17) (P := 1 = 0) rfl rfl (g_eqN (show 1 = nI 1 from (show (1 : Int32) = nI 1 from rfl)) (show 0 = nI 0 from (show (0 : Int32) = nI 0 from rfl)) (by omega) (by omega)) (fun h8 => absurd h8 (by omega)) (fun _ => ?_)
    refine g_pure 1 (i' := 16) (lv' := [some (vR 800), some (vI x), some (vI y)]) (st' := [vI 0]) rfl ?_
    refine g_iret rfl ?_
    exact o3 s1 es1 h2 s7 es7

theorem m_log {X : Nat × (Nat → Int32)} {d : Nat} {p : Nat → Nat} {sg : Mg} {B : Nat} {S : Nat → Int32} (hI : Inv B S) (hS : sg 801 = S) {x : Int32} {y : Int32} : gF X (d + 2) 310 [vR 800, vI x, vI y] p sg (oM p sg (logR S x y)) := by
  have b0 := hI.b0; have b1 := hI.b1; have b2 := hI.b2; have b3 := hI.b3; have b4 := hI.b4; have b5 := hI.b5; have b9 := hI.b9; have b14 := hI.b14
  refine g_in (cd := k_310) (nL := 3) (rc := 13) rfl (g_A (a := 800) (kd := 0) (n := 12) rfl (by decide)) (g_c1 rfl) (b_310_0 hI hS (fun s1 f1 n2 e2 l2 h3 => oM_0 f1 ?_) (fun s1 f1 n2 e2 l2 n3 e3 l3 => oM_0 f1 ?_) (fun s1 f1 h2 s3 f3 => oM_x (c := 0) f1 f3 ?_))
  · subst e2
    unfold logR
    rw [if_pos ((okx_nI (by omega)).mpr (by omega))]
    try simp (disch := omega) only [nI_clamp]
    try exact congrArg (fun j => ((0, S j) : Nat × Int32)) (by omega)
    try (split <;> first | rfl | contradiction)
    try rfl
  · subst e2 e3
    unfold logR
    rw [if_pos ((okx_nI (by omega)).mpr (by omega))]
    try simp (disch := omega) only [nI_clamp]
    rw [if_pos ((okx_nI (by omega)).mpr (by omega))]
  · skip
    unfold logR
    rw [if_neg (okx_nr (hi := 3) (by decide) h2)]

theorem nI_lsb {a i : Nat} (hi : i < 32) : (nI a).toBitVec.getLsbD i = a.testBit i := by
  rw [nI_bv, BitVec.getLsbD_ofNat]
  simp [hi]
theorem nI_clear {a b k : Nat} (hk : k < 32) (h : ∀ i, i < 32 → b.testBit i = (a.testBit i && decide (i ≠ k))) : nI a &&& (((1 : Int32) <<< (nI k &&& 31)) ^^^ (-1)) = nI b := by
  rw [nI_shl1 hk]
  apply bvI_inj
  rw [Int32.toBitVec_and, Int32.toBitVec_xor]
  apply BitVec.eq_of_getLsbD_eq
  intro i hi
  rw [BitVec.getLsbD_and, BitVec.getLsbD_xor, nI_lsb hi, nI_lsb hi, nI_lsb hi, h i hi]
  have e : (-1 : Int32).toBitVec = BitVec.allOnes 32 := rfl
  rw [e, BitVec.getLsbD_allOnes, Nat.testBit_two_pow]
  by_cases hik : i = k
  · subst hik; simp [hi]
  · have h2 : ¬ k = i := fun h => hik h.symm
    simp [hi, hik, h2]

def personR (S : Nat → Int32) (x : Int32) (y : Int32) : Nat × Int32 := if okx x (sn S 1) then (if okx y (7) then ((0, (if y = 6 then nI (bset (cmpP S x.toNatClampNeg) (sn S 1)) else S (113 + 6 * x.toNatClampNeg + y.toNatClampNeg)))) else (2, 0)) else (1, 0)

theorem b_145_0 {X : Nat × (Nat → Int32)} {d : Nat} {p : Nat → Nat} {sg : Mg} {Q : am_R → Prop} {B : Nat} {S : Nat → Int32} (hI : Inv B S) (hL : cwL 250 sg S) (hD : cwD 200 sg S) {x : Int32} {y : Int32}
    (o1 : ∀ n2 : Nat, x = nI n2 → n2 < sn S 1 → y = nI 0 → Q (gRv p sg (S (113 + 6 * n2))))
    (o2 : ∀ n2 : Nat, x = nI n2 → n2 < sn S 1 → y = nI 1 → Q (gRv p sg (S (113 + 6 * n2 + 1))))
    (o3 : ∀ n2 : Nat, x = nI n2 → n2 < sn S 1 → y = nI 2 → Q (gRv p sg (S (113 + 6 * n2 + 2))))
    (o4 : ∀ n2 : Nat, x = nI n2 → n2 < sn S 1 → y = nI 3 → Q (gRv p sg (S (113 + 6 * n2 + 3))))
    (o5 : ∀ n2 : Nat, x = nI n2 → n2 < sn S 1 → y = nI 4 → Q (gRv p sg (S (113 + 6 * n2 + 4))))
    (o6 : ∀ n2 : Nat, x = nI n2 → n2 < sn S 1 → y = nI 5 → Q (gRv p sg (S (113 + 6 * n2 + 5))))
    (o7 : ∀ n2 : Nat, x = nI n2 → n2 < sn S 1 → y = nI 6 → Q (gRv p sg (nI (bset (cmpP S n2) (sn S 1)))))
    (o8 : ∀ n2 : Nat, x = nI n2 → n2 < sn S 1 → (¬ (¬ (y < 0) ∧ ¬ (6 < y))) → Q (gRx p sg 3))
    (o9 : (¬ okx x (sn S 1)) → Q (gRx p sg 2)) :
    gW X (d + 2) k_145 0 [some (vR 0), some (vI x), some (vI y), none] [] p sg Q := by
  have b0 := hI.b0; have b1 := hI.b1; have b2 := hI.b2; have b3 := hI.b3; have b4 := hI.b4; have b5 := hI.b5; have b6 := hI.b6; have b7 := hI.b7; have b8 := hI.b8; have b9 := hI.b9; have b14 := hI.b14
  refine g_pure 3 (i' := 3) (lv' := [some (vR 0), some (vI x), some (vI y), none]) (st' := [vI x, vI 1, vR 0]) rfl ?_
  by_cases h1 : okx x (sn S 1)
  · obtain ⟨n2, ln2, en2⟩ := okx_of h1
    subst en2
    refine gW_eq (st' := [vI (nI n2), vI (nI 1), vR 0]) rfl (by rw [(show (1 : Int32) = nI 1 from rfl)]) rfl ?_
    refine g_cV0 rfl (args := [vR 0, vI (nI 1), vI (nI n2)]) (rest := []) rfl rfl rfl (s_140o (d := d) hI hL hD (by omega) ((okx_nI (by omega)).mpr (by omega))) ?_
    refine g_pure 5 (i' := 9) (lv' := [some (vR 0), some (vI (nI n2)), some (vI y), some (vR 250)]) (st' := [vI y]) rfl ?_
    by_cases h3 : (¬ (y < 0) ∧ ¬ (6 < y))
    · obtain ⟨n4, ln4, en4⟩ := okr_of (lo := 0) (hi := 6) (by decide) h3
      rcases (show n4 = 0 ∨ n4 = 1 ∨ n4 = 2 ∨ n4 = 3 ∨ n4 = 4 ∨ n4 = 5 ∨ n4 = 6 by omega) with rfl | rfl | rfl | rfl | rfl | rfl | rfl
      · subst en4
        refine g_swK (i' := 10) (k := 0) rfl rfl (by decide) rfl ?_
        refine g_pure 3 (i' := 13) (lv' := [some (vR 0), some (vI (nI n2)), some (vI (nI 0)), some (vR 250)]) (st' := [vI (nI n2), vR 252]) rfl ?_
        refine gW_eq (lv' := [some (vR 0), some (vI (nI n2)), some (vI 0), some (vR 250)]) (st' := [vI (nI n2), vR 252]) (by rw [(show (nI 0 : Int32) = 0 from rfl)]) rfl rfl ?_
        refine g_ald rfl (g_A (a := 252) (kd := 1) (n := 8) rfl (by decide)) (by decide) (show nI n2 = nI n2 from (rfl : nI n2 = nI n2)) (by omega) (show _ = S (113 + 6 * n2) from (hL.per 0 (by decide) (by omega))) ?_
        refine g_iret rfl ?_
        exact o1 n2 rfl ln2 rfl
      · subst en4
        refine g_swK (i' := 15) (k := 1) rfl rfl (by decide) rfl ?_
        refine g_pure 3 (i' := 18) (lv' := [some (vR 0), some (vI (nI n2)), some (vI (nI 1)), some (vR 250)]) (st' := [vI (nI n2), vR 253]) rfl ?_
        refine gW_eq (lv' := [some (vR 0), some (vI (nI n2)), some (vI 1), some (vR 250)]) (st' := [vI (nI n2), vR 253]) (by rw [(show (nI 1 : Int32) = 1 from rfl)]) rfl rfl ?_
        refine g_ald rfl (g_A (a := 253) (kd := 1) (n := 8) rfl (by decide)) (by decide) (show nI n2 = nI n2 from (rfl : nI n2 = nI n2)) (by omega) (show _ = S (113 + 6 * n2 + 1) from (hL.per 1 (by decide) (by omega))) ?_
        refine g_iret rfl ?_
        exact o2 n2 rfl ln2 rfl
      · subst en4
        refine g_swK (i' := 20) (k := 2) rfl rfl (by decide) rfl ?_
        refine g_pure 3 (i' := 23) (lv' := [some (vR 0), some (vI (nI n2)), some (vI (nI 2)), some (vR 250)]) (st' := [vI (nI n2), vR 254]) rfl ?_
        refine gW_eq (lv' := [some (vR 0), some (vI (nI n2)), some (vI 2), some (vR 250)]) (st' := [vI (nI n2), vR 254]) (by rw [(show (nI 2 : Int32) = 2 from rfl)]) rfl rfl ?_
        refine g_ald rfl (g_A (a := 254) (kd := 1) (n := 8) rfl (by decide)) (by decide) (show nI n2 = nI n2 from (rfl : nI n2 = nI n2)) (by omega) (show _ = S (113 + 6 * n2 + 2) from (hL.per 2 (by decide) (by omega))) ?_
        refine g_iret rfl ?_
        exact o3 n2 rfl ln2 rfl
      · subst en4
        refine g_swK (i' := 25) (k := 3) rfl rfl (by decide) rfl ?_
        refine g_pure 3 (i' := 28) (lv' := [some (vR 0), some (vI (nI n2)), some (vI (nI 3)), some (vR 250)]) (st' := [vI (nI n2), vR 255]) rfl ?_
        refine gW_eq (lv' := [some (vR 0), some (vI (nI n2)), some (vI 3), some (vR 250)]) (st' := [vI (nI n2), vR 255]) (by rw [(show (nI 3 : Int32) = 3 from rfl)]) rfl rfl ?_
        refine g_ald rfl (g_A (a := 255) (kd := 1) (n := 8) rfl (by decide)) (by decide) (show nI n2 = nI n2 from (rfl : nI n2 = nI n2)) (by omega) (show _ = S (113 + 6 * n2 + 3) from (hL.per 3 (by decide) (by omega))) ?_
        refine g_iret rfl ?_
        exact o4 n2 rfl ln2 rfl
      · subst en4
        refine g_swK (i' := 30) (k := 4) rfl rfl (by decide) rfl ?_
        refine g_pure 3 (i' := 33) (lv' := [some (vR 0), some (vI (nI n2)), some (vI (nI 4)), some (vR 250)]) (st' := [vI (nI n2), vR 256]) rfl ?_
        refine gW_eq (lv' := [some (vR 0), some (vI (nI n2)), some (vI 4), some (vR 250)]) (st' := [vI (nI n2), vR 256]) (by rw [(show (nI 4 : Int32) = 4 from rfl)]) rfl rfl ?_
        refine g_ald rfl (g_A (a := 256) (kd := 1) (n := 8) rfl (by decide)) (by decide) (show nI n2 = nI n2 from (rfl : nI n2 = nI n2)) (by omega) (show _ = S (113 + 6 * n2 + 4) from (hL.per 4 (by decide) (by omega))) ?_
        refine g_iret rfl ?_
        exact o5 n2 rfl ln2 rfl
      · subst en4
        refine g_swK (i' := 35) (k := 5) rfl rfl (by decide) rfl ?_
        refine g_pure 3 (i' := 38) (lv' := [some (vR 0), some (vI (nI n2)), some (vI (nI 5)), some (vR 250)]) (st' := [vI (nI n2), vR 257]) rfl ?_
        refine gW_eq (lv' := [some (vR 0), some (vI (nI n2)), some (vI 5), some (vR 250)]) (st' := [vI (nI n2), vR 257]) (by rw [(show (nI 5 : Int32) = 5 from rfl)]) rfl rfl ?_
        refine g_ald rfl (g_A (a := 257) (kd := 1) (n := 8) rfl (by decide)) (by decide) (show nI n2 = nI n2 from (rfl : nI n2 = nI n2)) (by omega) (show _ = S (113 + 6 * n2 + 5) from (hL.per 5 (by decide) (by omega))) ?_
        refine g_iret rfl ?_
        exact o6 n2 rfl ln2 rfl
      · subst en4
        refine g_swK (i' := 40) (k := 6) rfl rfl (by decide) rfl ?_
        refine g_pure 3 (i' := 43) (lv' := [some (vR 0), some (vI (nI n2)), some (vI (nI 6)), some (vR 250)]) (st' := [vI (nI n2), vR 200]) rfl ?_
        refine gW_eq (lv' := [some (vR 0), some (vI (nI n2)), some (vI 6), some (vR 250)]) (st' := [vI (nI n2), vR 200]) (by rw [(show (nI 6 : Int32) = 6 from rfl)]) rfl rfl ?_
        refine g_cV1 rfl (args := [vR 200, vI (nI n2)]) (rest := []) rfl rfl rfl (s_112 (d := d + 1) hI hL hD (by omega)) ?_
        refine g_iret rfl ?_
        exact o7 n2 rfl ln2 rfl
    · refine g_swD (i' := 45) rfl (okr_out (lo := 0) (hi := 6) (by decide) h3) rfl ?_
      refine g_thr' rfl rfl ?_
      exact o8 n2 rfl ln2 h3
  · refine gW_eq (st' := [vI x, vI (nI 1), vR 0]) rfl (by rw [(show (1 : Int32) = nI 1 from rfl)]) rfl ?_
    refine g_cVx rfl (args := [vR 0, vI (nI 1), vI x]) (rest := []) rfl rfl rfl (s_140x (d := d) hI hL hD (by omega) (by assumption)) ?_
    exact o9 h1

theorem c_person {X : Nat × (Nat → Int32)} {d : Nat} {p : Nat → Nat} {sg : Mg} {B : Nat} {S : Nat → Int32} (hI : Inv B S) (hL : cwL 250 sg S) (hD : cwD 200 sg S) {x : Int32} {y : Int32} : gF X (d + 3) 145 [vR 0, vI x, vI y] p sg (oC p sg (fun c => if c = 1 then 2 else 3) (personR S x y)) := by
  have b0 := hI.b0; have b1 := hI.b1; have b2 := hI.b2; have b3 := hI.b3; have b4 := hI.b4; have b5 := hI.b5; have b9 := hI.b9; have b14 := hI.b14
  refine g_in (cd := k_145) (nL := 4) (rc := 12) rfl (g_A (a := 0) (kd := 0) (n := 11) rfl (by decide)) (g_c1 rfl) (b_145_0 hI hL hD (fun n1 e1 l1 e2 => oC_0 ?_) (fun n1 e1 l1 e2 => oC_0 ?_) (fun n1 e1 l1 e2 => oC_0 ?_) (fun n1 e1 l1 e2 => oC_0 ?_) (fun n1 e1 l1 e2 => oC_0 ?_) (fun n1 e1 l1 e2 => oC_0 ?_) (fun n1 e1 l1 e2 => oC_0 ?_) (fun n1 e1 l1 h2 => oC_x (c := 1) ?_ rfl) (fun h1 => oC_x (c := 0) ?_ rfl))
  · subst e1 e2
    unfold personR
    rw [if_pos ((okx_nI (by omega)).mpr (by omega)), if_pos ((okx_nI (by omega)).mpr (by omega))]
    try simp (disch := omega) only [nI_clamp]
    try exact congrArg (fun j => ((0, S j) : Nat × Int32)) (by omega)
    try (split <;> first | rfl | contradiction)
    try rfl
  · subst e1 e2
    unfold personR
    rw [if_pos ((okx_nI (by omega)).mpr (by omega)), if_pos ((okx_nI (by omega)).mpr (by omega))]
    try simp (disch := omega) only [nI_clamp]
    try exact congrArg (fun j => ((0, S j) : Nat × Int32)) (by omega)
    try (split <;> first | rfl | contradiction)
    try rfl
  · subst e1 e2
    unfold personR
    rw [if_pos ((okx_nI (by omega)).mpr (by omega)), if_pos ((okx_nI (by omega)).mpr (by omega))]
    try simp (disch := omega) only [nI_clamp]
    try exact congrArg (fun j => ((0, S j) : Nat × Int32)) (by omega)
    try (split <;> first | rfl | contradiction)
    try rfl
  · subst e1 e2
    unfold personR
    rw [if_pos ((okx_nI (by omega)).mpr (by omega)), if_pos ((okx_nI (by omega)).mpr (by omega))]
    try simp (disch := omega) only [nI_clamp]
    try exact congrArg (fun j => ((0, S j) : Nat × Int32)) (by omega)
    try (split <;> first | rfl | contradiction)
    try rfl
  · subst e1 e2
    unfold personR
    rw [if_pos ((okx_nI (by omega)).mpr (by omega)), if_pos ((okx_nI (by omega)).mpr (by omega))]
    try simp (disch := omega) only [nI_clamp]
    try exact congrArg (fun j => ((0, S j) : Nat × Int32)) (by omega)
    try (split <;> first | rfl | contradiction)
    try rfl
  · subst e1 e2
    unfold personR
    rw [if_pos ((okx_nI (by omega)).mpr (by omega)), if_pos ((okx_nI (by omega)).mpr (by omega))]
    try simp (disch := omega) only [nI_clamp]
    try exact congrArg (fun j => ((0, S j) : Nat × Int32)) (by omega)
    try (split <;> first | rfl | contradiction)
    try rfl
  · subst e1 e2
    unfold personR
    rw [if_pos ((okx_nI (by omega)).mpr (by omega)), if_pos ((okx_nI (by omega)).mpr (by omega))]
    try simp (disch := omega) only [nI_clamp]
    try exact congrArg (fun j => ((0, S j) : Nat × Int32)) (by omega)
    try (split <;> first | rfl | contradiction)
    try rfl
  · subst e1
    unfold personR
    rw [if_pos ((okx_nI (by omega)).mpr (by omega)), if_neg (okx_nr (hi := 6) (by decide) h2)]
  · skip
    unfold personR
    rw [if_neg h1]

theorem b_236_0 {X : Nat × (Nat → Int32)} {d : Nat} {p : Nat → Nat} {sg : Mg} {Q : am_R → Prop} {B : Nat} {S : Nat → Int32} (hI : Inv B S) (hS : sg 801 = S) {x : Int32} {y : Int32}
    (o1 : ∀ s1 : Mg, s1 = mu sg 800 0 0 → (¬ okx x (sn S 1)) → ∀ s3 : Mg, s3 = mu s1 800 0 (nI 1) → Q (gRv p s3 0))
    (o2 : ∀ s1 : Mg, s1 = mu sg 800 0 0 → ∀ n5 : Nat, x = nI n5 → n5 < sn S 1 → ∀ n8 : Nat, y = nI n8 → 0 ≤ n8 ∧ n8 ≤ 6 → (6 ≤ n8) → (0 ≤ S (113 + 6 * n5)) → Q (gRv p s1 (nI (bset (togP S (S (113 + 6 * n5))) (sn S 1)) &&& ((1 <<< (nI n5 &&& 31)) ^^^ (-1)))))
    (o3 : ∀ s1 : Mg, s1 = mu sg 800 0 0 → ∀ n5 : Nat, x = nI n5 → n5 < sn S 1 → ∀ n8 : Nat, y = nI n8 → 0 ≤ n8 ∧ n8 ≤ 6 → (6 ≤ n8) → (¬ (0 ≤ S (113 + 6 * n5))) → Q (gRv p s1 0))
    (o4 : ∀ s1 : Mg, s1 = mu sg 800 0 0 → ∀ n5 : Nat, x = nI n5 → n5 < sn S 1 → ∀ n8 : Nat, y = nI n8 → 0 ≤ n8 ∧ n8 ≤ 6 → (¬ (6 ≤ n8)) → Q (gRv p s1 (S (113 + 6 * n5 + n8))))
    (o5 : ∀ s1 : Mg, s1 = mu sg 800 0 0 → ∀ n5 : Nat, x = nI n5 → n5 < sn S 1 → (¬ (¬ (y < 0) ∧ ¬ (6 < y))) → ∀ s12 : Mg, s12 = mu s1 800 0 (nI 2) → Q (gRv p s12 0)) :
    gW X (d + 2) k_236 0 [some (vR 800), some (vI x), some (vI y)] [] p sg Q := by
  have b0 := hI.b0; have b1 := hI.b1; have b2 := hI.b2; have b3 := hI.b3; have b4 := hI.b4; have b5 := hI.b5; have b6 := hI.b6; have b7 := hI.b7; have b8 := hI.b8; have b9 := hI.b9; have b14 := hI.b14
  refine g_pure 2 (i' := 2) (lv' := [some (vR 800), some (vI x), some (vI y)]) (st' := [vI 0, vR 800]) rfl ?_
  refine g_putI rfl (g_A (a := 800) (kd := 0) (n := 12) rfl (by decide)) ?_
  refine g_setv (fun s1 es1 => ?_)
  have hSs1 : s1 801 = S := by rw [es1, mu_ne (by decide), hS]
  refine g_pure 3 (i' := 6) (lv' := [some (vR 800), some (vI x), some (vI y)]) (st' := [vI x, vR 800, vR 800]) rfl ?_
  refine g_cV1 rfl (args := [vR 800, vI x]) (rest := [vR 800]) rfl rfl rfl (s_237 (d := d) hI hSs1) ?_
  refine g_pure 1 (i' := 8) (lv' := [some (vR 800), some (vI x), some (vI y)]) (st' := [vI 1, vI (if ¬ okx x (sn S 1) then 1 else 0), vR 800]) rfl ?_
  by_cases h2 : ¬ okx x (sn S 1)
  · refine gW_eq (st' := [vI 1, vI 1, vR 800]) rfl (by rw [if_pos h2]) rfl ?_
    refine gW_eq (st' := [vI (nI 1), vI 1, vR 800]) rfl (by rw [(show (1 : Int32) = nI 1 from rfl)]) rfl ?_
    refine g_cV1 rfl (args := [vR 800, vI 1, vI (nI 1)]) (rest := []) rfl rfl rfl (s_227t (d := d + 1) (by omega)) ?_
    refine g_setv (fun s3 es3 => ?_)
    have hSs3 : s3 801 = S := by rw [es3, mu_ne (by decide), hSs1]
    refine g_if1 (i' := 22) (P := ¬ 1 = 0) rfl rfl (g_neN (show 1 = nI 1 from (show (1 : Int32) = nI 1 from rfl)) (show 0 = nI 0 from (show (0 : Int32) = nI 0 from rfl)) (by omega) (by omega)) (fun _ => ?_) (fun h4 => absurd (by omega) h4)
    refine g_pure 1 (i' := 23) (lv' := [some (vR 800), some (vI x), some (vI y)]) (st' := [vI 0]) rfl ?_
    refine g_iret rfl ?_
    exact o1 s1 es1 h2 s3 es3
  · have h2 := Classical.not_not.mp h2
    refine gW_eq (st' := [vI 1, vI 0, vR 800]) rfl (by rw [if_neg (fun n9 => n9 h2)]) rfl ?_
    obtain ⟨n5, ln5, en5⟩ := okx_of h2
    subst en5
    refine gW_eq (st' := [vI (nI 1), vI 0, vR 800]) rfl (by rw [(show (1 : Int32) = nI 1 from rfl)]) rfl ?_
    refine g_cV1 rfl (args := [vR 800, vI 0, vI (nI 1)]) (rest := []) rfl rfl rfl (s_227f (d := d + 1) (by omega)) ?_
    refine g_if1 (i' := 22) (P := ¬ 0 = 0) rfl rfl (g_neN (show 0 = nI 0 from (show (0 : Int32) = nI 0 from rfl)) (show 0 = nI 0 from (show (0 : Int32) = nI 0 from rfl)) (by omega) (by omega)) (fun h6 => absurd h6 (by omega)) (fun _ => ?_)
    refine g_pure 4 (i' := 14) (lv' := [some (vR 800), some (vI (nI n5)), some (vI y)]) (st' := [vI 6, vI 0, vI y, vR 800]) rfl ?_
    refine g_cS1 rfl (args := [vI y, vI 0, vI 6]) (rest := [vR 800]) rfl rfl rfl (s_231 (d := d + 1) ) ?_
    refine g_if1 (i' := 18) (P := (¬ (y < 0) ∧ ¬ (6 < y))) rfl rfl g_neB (fun h7 => ?_) (fun h7 => ?_)
    · obtain ⟨n8, ln8, en8⟩ := okr_of (lo := 0) (hi := 6) (by decide) h7
      subst en8
      refine g_pure 2 (i' := 20) (lv' := [some (vR 800), some (vI (nI n5)), some (vI (nI n8))]) (st' := [vI 2, vI 0, vR 800]) rfl ?_
      refine gW_eq (st' := [vI (nI 2), vI 0, vR 800]) rfl (by rw [(show (2 : Int32) = nI 2 from rfl)]) rfl ?_
      refine g_cV1 rfl (args := [vR 800, vI 0, vI (nI 2)]) (rest := []) rfl rfl rfl (s_227f (d := d + 1) (by omega)) ?_
      refine g_if1 (i' := 24) (P := 0 = 0) rfl rfl (g_eqN (show 0 = nI 0 from (show (0 : Int32) = nI 0 from rfl)) (show 0 = nI 0 from (show (0 : Int32) = nI 0 from rfl)) (by omega) (by omega)) (fun _ => ?_) (fun h9 => absurd (by omega) h9)
      refine g_pure 2 (i' := 26) (lv' := [some (vR 800), some (vI (nI n5)), some (vI (nI n8))]) (st' := [vI 6, vI (nI n8)]) rfl ?_
      refine g_if2 (i' := 32) (P := 6 ≤ n8) rfl rfl (g_geN (show nI n8 = nI n8 from (rfl : nI n8 = nI n8)) (show 6 = nI 6 from (show (6 : Int32) = nI 6 from rfl)) (by omega) (by omega)) (fun h10 => ?_) (fun h10 => ?_)
      · refine g_pure 3 (i' := 35) (lv' := [some (vR 800), some (vI (nI n5)), some (vI (nI n8))]) (st' := [vI 0, vI (nI n5), vR 800]) rfl ?_
        refine gW_eq (st' := [vI (nI 0), vI (nI n5), vR 800]) rfl (by rw [(show (0 : Int32) = nI 0 from rfl)]) rfl ?_
        refine g_cV1 rfl (args := [vR 800, vI (nI n5), vI (nI 0)]) (rest := []) rfl rfl rfl (s_238 (d := d + 1) hSs1 (by omega) (by omega)) ?_
        refine gW_eq (st' := [vI (S (113 + 6 * n5))]) rfl (by rw [show S (113 + 6 * n5 + 0) = S (113 + 6 * n5) from congrArg S (by omega)]) rfl ?_
        refine g_if1 (i' := 39) (P := 0 ≤ S (113 + 6 * n5)) rfl rfl Iff.rfl (fun h11 => ?_) (fun h11 => ?_)
        · refine g_pure 4 (i' := 43) (lv' := [some (vR 800), some (vI (nI n5)), some (vI (nI n8))]) (st' := [vI 0, vI (nI n5), vR 800, vR 800]) rfl ?_
          refine gW_eq (st' := [vI (nI 0), vI (nI n5), vR 800, vR 800]) rfl (by rw [(show (0 : Int32) = nI 0 from rfl)]) rfl ?_
          refine g_cV1 rfl (args := [vR 800, vI (nI n5), vI (nI 0)]) (rest := [vR 800]) rfl rfl rfl (s_238 (d := d + 1) hSs1 (by omega) (by omega)) ?_
          refine gW_eq (st' := [vI (S (113 + 6 * n5)), vR 800]) rfl (by rw [show S (113 + 6 * n5 + 0) = S (113 + 6 * n5) from congrArg S (by omega)]) rfl ?_
          refine g_cV1 rfl (args := [vR 800, vI (S (113 + 6 * n5))]) (rest := []) rfl rfl rfl (s_239 (d := d) hI hSs1) ?_
          refine g_pure 6 (i' := 51) (lv' := [some (vR 800), some (vI (nI n5)), some (vI (nI n8))]) (st' := [vI (nI (bset (togP S (S (113 + 6 * n5))) (sn S 1)) &&& ((1 <<< (nI n5 &&& 31)) ^^^ (-1)))]) rfl ?_
          refine g_iret rfl ?_
          exact o2 s1 es1 n5 rfl ln5 n8 rfl ln8 h10 h11
        · refine g_pure 2 (i' := 51) (lv' := [some (vR 800), some (vI (nI n5)), some (vI (nI n8))]) (st' := [vI 0]) rfl ?_
          refine g_iret rfl ?_
          exact o3 s1 es1 n5 rfl ln5 n8 rfl ln8 h10 h11
      · refine g_pure 3 (i' := 30) (lv' := [some (vR 800), some (vI (nI n5)), some (vI (nI n8))]) (st' := [vI (nI n8), vI (nI n5), vR 800]) rfl ?_
        refine g_cV1 rfl (args := [vR 800, vI (nI n5), vI (nI n8)]) (rest := []) rfl rfl rfl (s_238 (d := d + 1) hSs1 (by omega) (by omega)) ?_
        refine g_iret rfl ?_
        exact o4 s1 es1 n5 rfl ln5 n8 rfl ln8 h10
    · refine g_pure 3 (i' := 20) (lv' := [some (vR 800), some (vI (nI n5)), some (vI y)]) (st' := [vI 2, vI 1, vR 800]) rfl ?_
      refine gW_eq (st' := [vI (nI 2), vI 1, vR 800]) rfl (by rw [(show (2 : Int32) = nI 2 from rfl)]) rfl ?_
      refine g_cV1 rfl (args := [vR 800, vI 1, vI (nI 2)]) (rest := []) rfl rfl rfl (s_227t (d := d + 1) (by omega)) ?_
      refine g_setv (fun s12 es12 => ?_)
      have hSs12 : s12 801 = S := by rw [es12, mu_ne (by decide), hSs1]
      refine g_if1 (i' := 24) (P := 1 = 0) rfl rfl (g_eqN (show 1 = nI 1 from (show (1 : Int32) = nI 1 from rfl)) (show 0 = nI 0 from (show (0 : Int32) = nI 0 from rfl)) (by omega) (by omega)) (fun h13 => absurd h13 (by omega)) (fun _ => ?_)
      refine g_pure 1 (i' := 23) (lv' := [some (vR 800), some (vI (nI n5)), some (vI y)]) (st' := [vI 0]) rfl ?_
      refine g_iret rfl ?_
      exact o5 s1 es1 n5 rfl ln5 h7 s12 es12

theorem m_person {X : Nat × (Nat → Int32)} {d : Nat} {p : Nat → Nat} {sg : Mg} {B : Nat} {S : Nat → Int32} (hI : Inv B S) (hS : sg 801 = S) {x : Int32} {y : Int32} : gF X (d + 3) 236 [vR 800, vI x, vI y] p sg (oM p sg (personR S x y)) := by
  have b0 := hI.b0; have b1 := hI.b1; have b2 := hI.b2; have b3 := hI.b3; have b4 := hI.b4; have b5 := hI.b5; have b9 := hI.b9; have b14 := hI.b14
  refine g_in (cd := k_236) (nL := 3) (rc := 13) rfl (g_A (a := 800) (kd := 0) (n := 12) rfl (by decide)) (g_c1 rfl) (b_236_0 hI hS (fun s1 f1 h2 s3 f3 => oM_x (c := 0) f1 f3 ?_) (fun s1 f1 n2 e2 l2 n3 e3 l3 h4 h5 => oM_0 f1 ?_) (fun s1 f1 n2 e2 l2 n3 e3 l3 h4 h5 => oM_0 f1 ?_) (fun s1 f1 n2 e2 l2 n3 e3 l3 h4 => oM_0 f1 ?_) (fun s1 f1 n2 e2 l2 h3 s4 f4 => oM_x (c := 1) f1 f4 ?_))
  · skip
    unfold personR
    rw [if_neg h2]
  · subst e2 e3
    unfold personR
    rw [if_pos ((okx_nI (by omega)).mpr (by omega)), if_pos ((okx_nI (by omega)).mpr (by omega))]
    try simp (disch := omega) only [nI_clamp]
    have e6 : n3 = 6 := by omega
    subst e6
    rw [if_pos (show nI 6 = 6 from rfl), nI_clear (b := bset (cmpP S n2) (sn S 1)) (by omega)]
    intro i hi
    rw [bset_bit, bset_bit]
    have hne : S (113 + 6 * n2) ≠ -1 := fun h9 => by rw [h9] at h5; exact absurd h5 (by decide)
    by_cases h1 : i < sn S 1 <;> by_cases h2 : i = n2 <;> simp [h1, h2, cmpP, togP, hne]
  · subst e2 e3
    unfold personR
    rw [if_pos ((okx_nI (by omega)).mpr (by omega)), if_pos ((okx_nI (by omega)).mpr (by omega))]
    try simp (disch := omega) only [nI_clamp]
    have e6 : n3 = 6 := by omega
    subst e6
    rw [if_pos (show nI 6 = 6 from rfl)]
    have hm1 : S (113 + 6 * n2) = -1 := by
      rcases (hI.per l2).1 with h9 | h9
      · exfalso; apply h5; rw [h9.1.1]; exact nI_pos' (by have := h9.1.2; omega)
      · exact h9.1
    rw [bset_ext (Q := fun _ => false) (fun k _ => by simp [cmpP, hm1])]
    have h0 : ∀ n, bset (fun _ => false) n = 0 := by
      intro n
      induction n with
      | zero => rfl
      | succ n ih => simp [bset, ih]
    rw [h0]
    rfl
  · subst e2 e3
    unfold personR
    rw [if_pos ((okx_nI (by omega)).mpr (by omega)), if_pos ((okx_nI (by omega)).mpr (by omega))]
    try simp (disch := omega) only [nI_clamp]
    rw [if_neg (fun h9 => by have := (nI_eq (a := n3) (b := 6) (by omega) (by omega)).mp h9; omega)]
  · subst e2
    unfold personR
    rw [if_pos ((okx_nI (by omega)).mpr (by omega)), if_neg (okx_nr (hi := 6) (by decide) h3)]
