/-! THE CHECKS of arguments, and day, page, when (made by wip/whole/gen32.py) -/
theorem Inv.cnt {B : Nat} {S : Nat → Int32} (h : Inv B S) {c : Nat} (hc : c ≤ 5) : S c = nI (sn S c) ∧ sn S c ≤ 12 := by
  have b0 := h.b0; have b1 := h.b1; have b2 := h.b2; have b3 := h.b3; have b4 := h.b4; have b5 := h.b5
  have hh : c = 0 ∨ c = 1 ∨ c = 2 ∨ c = 3 ∨ c = 4 ∨ c = 5 := by omega
  rcases hh with rfl | rfl | rfl | rfl | rfl | rfl
  · exact ⟨h.c0, by omega⟩
  · exact ⟨h.c1, by omega⟩
  · exact ⟨h.c2, by omega⟩
  · exact ⟨h.c3, by omega⟩
  · exact ⟨h.c4, by omega⟩
  · exact ⟨h.c5, by omega⟩

theorem s_36r {X : Nat × (Nat → Int32)} {d : Nat} {p : Nat → Nat} {sg : Mg} {S : Nat → Int32} (hL : cwL 250 sg S) (hD : cwD 200 sg S) {c : Nat} {x : Int32} (u_c : c ≤ 5) : gF X (d + 1) 36 [vR 202, vI (nI c), vI x] p sg (fun r => r = gRv p sg (if (¬ (x < 0) ∧ ¬ (S c ≤ x)) then 1 else 0)) := by
  refine g_in (cd := k_36) (nL := 3) (rc := 4) rfl (g_A (a := 202) (kd := 0) (n := 3) rfl (by decide)) (g_c1 rfl) ?_
  show gW X (d) k_36 0 [some (vR 202), some (vI (nI c)), some (vI x)] [] p sg _
  refine g_pure 1 (i' := 1) (lv' := [some (vR 202), some (vI (nI c)), some (vI x)]) (st' := [vI x]) rfl ?_
  refine g_if1 (i' := 10) (P := x < 0) rfl rfl Iff.rfl (fun h1 => ?_) (fun h1 => ?_)
  · refine g_pure 1 (i' := 11) (lv' := [some (vR 202), some (vI (nI c)), some (vI x)]) (st' := [vI 0]) rfl ?_
    refine g_bret rfl g_nar0 ?_
    exact (congrArg (gRv p sg) (if_neg (fun q9 => (fun n9 => n9 h1) q9.1)).symm)
  · refine g_pure 4 (i' := 6) (lv' := [some (vR 202), some (vI (nI c)), some (vI x)]) (st' := [vI (nI c), vR 203, vI x]) rfl ?_
    refine g_ald rfl (g_A (a := 203) (kd := 1) (n := 6) rfl (by decide)) (by decide) (show nI c = nI c from (rfl : nI c = nI c)) (by omega) (show _ = S c from (hD.cnt (by omega))) ?_
    refine g_if2 (i' := 10) (P := S c ≤ x) rfl rfl Iff.rfl (fun h2 => ?_) (fun h2 => ?_)
    · refine g_pure 1 (i' := 11) (lv' := [some (vR 202), some (vI (nI c)), some (vI x)]) (st' := [vI 0]) rfl ?_
      refine g_bret rfl g_nar0 ?_
      exact (congrArg (gRv p sg) (if_neg (fun q9 => (fun n9 => n9 h2) q9.2)).symm)
    · refine g_pure 2 (i' := 11) (lv' := [some (vR 202), some (vI (nI c)), some (vI x)]) (st' := [vI 1]) rfl ?_
      refine g_bret rfl g_nar1 ?_
      exact (congrArg (gRv p sg) (if_pos ⟨h1, h2⟩).symm)

theorem s_36 {X : Nat × (Nat → Int32)} {d : Nat} {p : Nat → Nat} {sg : Mg} {B : Nat} {S : Nat → Int32} (hI : Inv B S) (hL : cwL 250 sg S) (hD : cwD 200 sg S) {c : Nat} {x : Int32} (hc : c ≤ 5) : gF X (d + 1) 36 [vR 202, vI (nI c), vI x] p sg (fun r => r = gRv p sg (if okx x (sn S c) then 1 else 0)) :=
  gF_mono (s_36r hL hD hc) (fun r hr => hr.trans (congrArg (gRv p sg) (g_ite (okx_ge (hI.cnt hc).1 (by have := (hI.cnt hc).2; omega)))))

theorem s_140o {X : Nat × (Nat → Int32)} {d : Nat} {p : Nat → Nat} {sg : Mg} {B : Nat} {S : Nat → Int32} (hI : Inv B S) (hL : cwL 250 sg S) (hD : cwD 200 sg S) {c : Nat} {x : Int32} (u_c : c ≤ 5) (q1 : okx x (sn S c)) : gF X (d + 2) 140 [vR 0, vI (nI c), vI x] p sg (fun r => r = gR0 p sg) := by
  have b0 := hI.b0; have b1 := hI.b1; have b2 := hI.b2; have b3 := hI.b3; have b4 := hI.b4; have b5 := hI.b5; have b6 := hI.b6; have b7 := hI.b7; have b8 := hI.b8; have b9 := hI.b9; have b14 := hI.b14
  refine g_in (cd := k_140) (nL := 3) (rc := 12) rfl (g_A (a := 0) (kd := 0) (n := 11) rfl (by decide)) (g_c1 rfl) ?_
  show gW X (d + 1) k_140 0 [some (vR 0), some (vI (nI c)), some (vI x)] [] p sg _
  refine g_pure 5 (i' := 5) (lv' := [some (vR 0), some (vI (nI c)), some (vI x)]) (st' := [vI x, vI (nI c), vR 202]) rfl ?_
  refine g_cV1 rfl (args := [vR 202, vI (nI c), vI x]) (rest := []) rfl rfl rfl (s_36 (d := d) hI hL hD (by omega)) ?_
  refine g_if1 (i' := 12) (P := okx x (sn S c)) rfl rfl g_neB (fun _ => ?_) (fun h1 => absurd q1 h1)
  refine g_vret rfl ?_
  exact rfl

theorem s_140x {X : Nat × (Nat → Int32)} {d : Nat} {p : Nat → Nat} {sg : Mg} {B : Nat} {S : Nat → Int32} (hI : Inv B S) (hL : cwL 250 sg S) (hD : cwD 200 sg S) {c : Nat} {x : Int32} (u_c : c ≤ 5) (q1 : ¬ okx x (sn S c)) : gF X (d + 2) 140 [vR 0, vI (nI c), vI x] p sg (fun r => r = gRx p sg 2) := by
  have b0 := hI.b0; have b1 := hI.b1; have b2 := hI.b2; have b3 := hI.b3; have b4 := hI.b4; have b5 := hI.b5; have b6 := hI.b6; have b7 := hI.b7; have b8 := hI.b8; have b9 := hI.b9; have b14 := hI.b14
  refine g_in (cd := k_140) (nL := 3) (rc := 12) rfl (g_A (a := 0) (kd := 0) (n := 11) rfl (by decide)) (g_c1 rfl) ?_
  show gW X (d + 1) k_140 0 [some (vR 0), some (vI (nI c)), some (vI x)] [] p sg _
  refine g_pure 5 (i' := 5) (lv' := [some (vR 0), some (vI (nI c)), some (vI x)]) (st' := [vI x, vI (nI c), vR 202]) rfl ?_
  refine g_cV1 rfl (args := [vR 202, vI (nI c), vI x]) (rest := []) rfl rfl rfl (s_36 (d := d) hI hL hD (by omega)) ?_
  refine g_if1 (i' := 12) (P := okx x (sn S c)) rfl rfl g_neB (fun h1 => absurd h1 q1) (fun _ => ?_)
  refine g_thr' rfl rfl ?_
  exact rfl

theorem s_141o {X : Nat × (Nat → Int32)} {d : Nat} {p : Nat → Nat} {sg : Mg} {x : Int32} {lo : Int32} {hi : Int32} (q1 : ¬ (x < lo)) (q2 : ¬ (hi < x)) : gF X (d + 1) 141 [vI x, vI lo, vI hi] p sg (fun r => r = gR0 p sg) := by
  refine g_in (cd := k_141) (nL := 3) (rc := 0) rfl trivial (g_c1 rfl) ?_
  show gW X (d) k_141 0 [some (vI x), some (vI lo), some (vI hi)] [] p sg _
  refine g_pure 2 (i' := 2) (lv' := [some (vI x), some (vI lo), some (vI hi)]) (st' := [vI lo, vI x]) rfl ?_
  refine g_if2 (i' := 6) (P := x < lo) rfl rfl Iff.rfl (fun h1 => absurd h1 q1) (fun _ => ?_)
  refine g_pure 2 (i' := 5) (lv' := [some (vI x), some (vI lo), some (vI hi)]) (st' := [vI hi, vI x]) rfl ?_
  refine g_if2 (i' := 11) (P := x ≤ hi) rfl rfl Iff.rfl (fun _ => ?_) (fun h2 => absurd (Int32.not_lt.mp q2) h2)
  refine g_vret rfl ?_
  exact rfl

theorem b_141_0 {X : Nat × (Nat → Int32)} {d : Nat} {p : Nat → Nat} {sg : Mg} {Q : am_R → Prop} {x : Int32} {lo : Int32} {hi : Int32}
    (o1 : (x < lo) → Q (gRx p sg 0))
    (o2 : (¬ (x < lo)) → (x ≤ hi) → Q (gR0 p sg))
    (o3 : (¬ (x < lo)) → (¬ (x ≤ hi)) → Q (gRx p sg 0)) :
    gW X (d) k_141 0 [some (vI x), some (vI lo), some (vI hi)] [] p sg Q := by
  refine g_pure 2 (i' := 2) (lv' := [some (vI x), some (vI lo), some (vI hi)]) (st' := [vI lo, vI x]) rfl ?_
  refine g_if2 (i' := 6) (P := x < lo) rfl rfl Iff.rfl (fun h1 => ?_) (fun h1 => ?_)
  · refine g_thr' rfl rfl ?_
    exact o1 h1
  · refine g_pure 2 (i' := 5) (lv' := [some (vI x), some (vI lo), some (vI hi)]) (st' := [vI hi, vI x]) rfl ?_
    refine g_if2 (i' := 11) (P := x ≤ hi) rfl rfl Iff.rfl (fun h2 => ?_) (fun h2 => ?_)
    · refine g_vret rfl ?_
      exact o2 h1 h2
    · refine g_thr' rfl rfl ?_
      exact o3 h1 h2

theorem s_141x {X : Nat × (Nat → Int32)} {d : Nat} {p : Nat → Nat} {sg : Mg} {x lo hi : Int32} (h : ¬ (¬ (x < lo) ∧ ¬ (hi < x))) : gF X (d + 1) 141 [vI x, vI lo, vI hi] p sg (fun r => r = gRx p sg 0) :=
  g_in (cd := k_141) (nL := 3) (rc := 0) rfl trivial (g_c1 rfl) (b_141_0 (fun _ => rfl) (fun h1 h2 => absurd ⟨h1, Int32.not_lt.mpr h2⟩ h) (fun _ _ => rfl))

theorem b_143_0 {X : Nat × (Nat → Int32)} {d : Nat} {p : Nat → Nat} {sg : Mg} {Q : am_R → Prop} {B : Nat} {S : Nat → Int32} (hI : Inv B S) (hL : cwL 250 sg S) (hD : cwD 200 sg S) {x : Int32}
    (o1 : (x < 0) → Q (gRx p sg 2))
    (o2 : (¬ (x < 0)) → (x < S 9) → Q (gR0 p sg))
    (o3 : (¬ (x < 0)) → (¬ (x < S 9)) → Q (gRx p sg 2)) :
    gW X (d) k_143 0 [some (vR 0), some (vI x)] [] p sg Q := by
  have b0 := hI.b0; have b1 := hI.b1; have b2 := hI.b2; have b3 := hI.b3; have b4 := hI.b4; have b5 := hI.b5; have b6 := hI.b6; have b7 := hI.b7; have b8 := hI.b8; have b9 := hI.b9; have b14 := hI.b14
  refine g_pure 1 (i' := 1) (lv' := [some (vR 0), some (vI x)]) (st' := [vI x]) rfl ?_
  refine g_if1 (i' := 8) (P := x < 0) rfl rfl Iff.rfl (fun h1 => ?_) (fun h1 => ?_)
  · refine g_thr' rfl rfl ?_
    exact o1 h1
  · refine g_pure 4 (i' := 6) (lv' := [some (vR 0), some (vI x)]) (st' := [vR 202, vI x]) rfl ?_
    refine g_getI rfl (g_A (a := 202) (kd := 0) (n := 3) rfl (by decide)) (show _ = S 9 from hD.f5) ?_
    refine g_if2 (i' := 13) (P := x < S 9) rfl rfl Iff.rfl (fun h2 => ?_) (fun h2 => ?_)
    · refine g_vret rfl ?_
      exact o2 h1 h2
    · refine g_thr' rfl rfl ?_
      exact o3 h1 h2

theorem s_143o {X : Nat × (Nat → Int32)} {d : Nat} {p : Nat → Nat} {sg : Mg} {B : Nat} {S : Nat → Int32} (hI : Inv B S) (hL : cwL 250 sg S) (hD : cwD 200 sg S) {x : Int32} (h : okx x (sn S 9)) : gF X (d + 1) 143 [vR 0, vI x] p sg (fun r => r = gR0 p sg) := by
  have h9 := (okx_lt hI.c9 (by have := hI.b9; omega)).mpr h
  exact g_in (cd := k_143) (nL := 2) (rc := 12) rfl (g_A (a := 0) (kd := 0) (n := 11) rfl (by decide)) (g_c1 rfl) (b_143_0 hI hL hD (fun h1 => absurd h1 h9.1) (fun _ _ => rfl) (fun _ h1 => absurd h9.2 h1))
theorem s_143x {X : Nat × (Nat → Int32)} {d : Nat} {p : Nat → Nat} {sg : Mg} {B : Nat} {S : Nat → Int32} (hI : Inv B S) (hL : cwL 250 sg S) (hD : cwD 200 sg S) {x : Int32} (h : ¬ okx x (sn S 9)) : gF X (d + 1) 143 [vR 0, vI x] p sg (fun r => r = gRx p sg 2) :=
  g_in (cd := k_143) (nL := 2) (rc := 12) rfl (g_A (a := 0) (kd := 0) (n := 11) rfl (by decide)) (g_c1 rfl) (b_143_0 hI hL hD (fun _ => rfl) (fun h1 h2 => absurd ((okx_lt hI.c9 (by have := hI.b9; omega)).mp ⟨h1, h2⟩) h) (fun _ _ => rfl))

theorem b_147_0 {X : Nat × (Nat → Int32)} {d : Nat} {p : Nat → Nat} {sg : Mg} {Q : am_R → Prop} {x : Int32} {c : Nat} (u_c : c ≤ 10)
    (o1 : (x < 0) → Q (gRx p sg 3))
    (o2 : (¬ (x < 0)) → (x < nI c) → Q (gR0 p sg))
    (o3 : (¬ (x < 0)) → (¬ (x < nI c)) → Q (gRx p sg 3)) :
    gW X (d) k_147 0 [some (vI x), some (vI (nI c))] [] p sg Q := by
  refine g_pure 1 (i' := 1) (lv' := [some (vI x), some (vI (nI c))]) (st' := [vI x]) rfl ?_
  refine g_if1 (i' := 5) (P := x < 0) rfl rfl Iff.rfl (fun h1 => ?_) (fun h1 => ?_)
  · refine g_thr' rfl rfl ?_
    exact o1 h1
  · refine g_pure 2 (i' := 4) (lv' := [some (vI x), some (vI (nI c))]) (st' := [vI (nI c), vI x]) rfl ?_
    refine g_if2 (i' := 10) (P := x < nI c) rfl rfl Iff.rfl (fun h2 => ?_) (fun h2 => ?_)
    · refine g_vret rfl ?_
      exact o2 h1 h2
    · refine g_thr' rfl rfl ?_
      exact o3 h1 h2

theorem s_147o {X : Nat × (Nat → Int32)} {d : Nat} {p : Nat → Nat} {sg : Mg} {x : Int32} {c : Nat} (hc : c ≤ 10) (h : okx x c) : gF X (d + 1) 147 [vI x, vI (nI c)] p sg (fun r => r = gR0 p sg) := by
  have h9 := (okx_lt (y := nI c) rfl (by omega)).mpr h
  exact g_in (cd := k_147) (nL := 2) (rc := 0) rfl trivial (g_c1 rfl) (b_147_0 hc (fun h1 => absurd h1 h9.1) (fun _ _ => rfl) (fun _ h1 => absurd h9.2 h1))
theorem s_147x {X : Nat × (Nat → Int32)} {d : Nat} {p : Nat → Nat} {sg : Mg} {x : Int32} {c : Nat} (hc : c ≤ 10) (h : ¬ okx x c) : gF X (d + 1) 147 [vI x, vI (nI c)] p sg (fun r => r = gRx p sg 3) :=
  g_in (cd := k_147) (nL := 2) (rc := 0) rfl trivial (g_c1 rfl) (b_147_0 hc (fun _ => rfl) (fun h1 h2 => absurd ((okx_lt rfl (by omega)).mp ⟨h1, h2⟩) h) (fun _ _ => rfl))

theorem s_155o {X : Nat × (Nat → Int32)} {d : Nat} {p : Nat → Nat} {sg : Mg} {x : Int32} {y : Int32} (q1 : ¬ (x = y)) : gF X (d + 1) 155 [vI x, vI y] p sg (fun r => r = gR0 p sg) := by
  refine g_in (cd := k_155) (nL := 2) (rc := 0) rfl trivial (g_c1 rfl) ?_
  show gW X (d) k_155 0 [some (vI x), some (vI y)] [] p sg _
  refine g_pure 2 (i' := 2) (lv' := [some (vI x), some (vI y)]) (st' := [vI y, vI x]) rfl ?_
  refine g_if2 (i' := 8) (P := ¬ x = y) rfl rfl Iff.rfl (fun _ => ?_) (fun h1 => absurd q1 h1)
  refine g_vret rfl ?_
  exact rfl

theorem s_155x {X : Nat × (Nat → Int32)} {d : Nat} {p : Nat → Nat} {sg : Mg} {x : Int32} {y : Int32} (q1 : x = y) : gF X (d + 1) 155 [vI x, vI y] p sg (fun r => r = gRx p sg 0) := by
  refine g_in (cd := k_155) (nL := 2) (rc := 0) rfl trivial (g_c1 rfl) ?_
  show gW X (d) k_155 0 [some (vI x), some (vI y)] [] p sg _
  refine g_pure 2 (i' := 2) (lv' := [some (vI x), some (vI y)]) (st' := [vI y, vI x]) rfl ?_
  refine g_if2 (i' := 8) (P := ¬ x = y) rfl rfl Iff.rfl (fun h1 => absurd h1 (fun h9 => h9 q1)) (fun _ => ?_)
  refine g_thr' rfl rfl ?_
  exact rfl

theorem s_230r {X : Nat × (Nat → Int32)} {d : Nat} {p : Nat → Nat} {sg : Mg} {S : Nat → Int32} (hS : sg 801 = S) {x : Int32} : gF X (d + 2) 230 [vR 800, vI x] p sg (fun r => r = gRv p sg (if ¬ (¬ (x < 0) ∧ ¬ ((S 0 - 1) < x)) then 1 else 0)) := by
  refine g_in (cd := k_230) (nL := 2) (rc := 13) rfl (g_A (a := 800) (kd := 0) (n := 12) rfl (by decide)) (g_c1 rfl) ?_
  show gW X (d + 1) k_230 0 [some (vR 800), some (vI x)] [] p sg _
  refine g_pure 3 (i' := 3) (lv' := [some (vR 800), some (vI x)]) (st' := [vR 800, vI 0, vI x]) rfl ?_
  refine g_cV1 rfl (args := [vR 800]) (rest := [vI 0, vI x]) rfl rfl rfl (s_195 (d := d) hS) ?_
  refine g_pure 2 (i' := 6) (lv' := [some (vR 800), some (vI x)]) (st' := [vI (S 0 - 1), vI 0, vI x]) rfl ?_
  refine g_cS1 rfl (args := [vI x, vI 0, vI (S 0 - 1)]) (rest := []) rfl rfl rfl (s_231 (d := d) ) ?_
  refine g_if1 (i' := 10) (P := (¬ (x < 0) ∧ ¬ ((S 0 - 1) < x))) rfl rfl g_neB (fun h1 => ?_) (fun h1 => ?_)
  · refine g_pure 1 (i' := 11) (lv' := [some (vR 800), some (vI x)]) (st' := [vI 0]) rfl ?_
    refine g_bret rfl g_nar0 ?_
    exact (congrArg (gRv p sg) (if_neg (fun n9 => n9 h1)).symm)
  · refine g_pure 2 (i' := 11) (lv' := [some (vR 800), some (vI x)]) (st' := [vI 1]) rfl ?_
    refine g_bret rfl g_nar1 ?_
    exact (congrArg (gRv p sg) (if_pos h1).symm)

theorem s_230 {X : Nat × (Nat → Int32)} {d : Nat} {p : Nat → Nat} {sg : Mg} {B : Nat} {S : Nat → Int32} (hI : Inv B S) (hS : sg 801 = S) {x : Int32} : gF X (d + 2) 230 [vR 800, vI x] p sg (fun r => r = gRv p sg (if ¬ okx x (sn S 0) then 1 else 0)) :=
  gF_mono (s_230r hS) (fun r hr => hr.trans (congrArg (gRv p sg) (g_ite (not_congr (okx_in hI.c0 (by have := hI.b0; omega))))))

theorem s_234r {X : Nat × (Nat → Int32)} {d : Nat} {p : Nat → Nat} {sg : Mg} {S : Nat → Int32} (hS : sg 801 = S) {x : Int32} : gF X (d + 2) 234 [vR 800, vI x] p sg (fun r => r = gRv p sg (if ¬ (¬ (x < 0) ∧ ¬ ((S 9 - 1) < x)) then 1 else 0)) := by
  refine g_in (cd := k_234) (nL := 2) (rc := 13) rfl (g_A (a := 800) (kd := 0) (n := 12) rfl (by decide)) (g_c1 rfl) ?_
  show gW X (d + 1) k_234 0 [some (vR 800), some (vI x)] [] p sg _
  refine g_pure 3 (i' := 3) (lv' := [some (vR 800), some (vI x)]) (st' := [vR 800, vI 0, vI x]) rfl ?_
  refine g_cV1 rfl (args := [vR 800]) (rest := [vI 0, vI x]) rfl rfl rfl (s_199 (d := d) hS) ?_
  refine g_pure 2 (i' := 6) (lv' := [some (vR 800), some (vI x)]) (st' := [vI (S 9 - 1), vI 0, vI x]) rfl ?_
  refine g_cS1 rfl (args := [vI x, vI 0, vI (S 9 - 1)]) (rest := []) rfl rfl rfl (s_231 (d := d) ) ?_
  refine g_if1 (i' := 10) (P := (¬ (x < 0) ∧ ¬ ((S 9 - 1) < x))) rfl rfl g_neB (fun h1 => ?_) (fun h1 => ?_)
  · refine g_pure 1 (i' := 11) (lv' := [some (vR 800), some (vI x)]) (st' := [vI 0]) rfl ?_
    refine g_bret rfl g_nar0 ?_
    exact (congrArg (gRv p sg) (if_neg (fun n9 => n9 h1)).symm)
  · refine g_pure 2 (i' := 11) (lv' := [some (vR 800), some (vI x)]) (st' := [vI 1]) rfl ?_
    refine g_bret rfl g_nar1 ?_
    exact (congrArg (gRv p sg) (if_pos h1).symm)

theorem s_234 {X : Nat × (Nat → Int32)} {d : Nat} {p : Nat → Nat} {sg : Mg} {B : Nat} {S : Nat → Int32} (hI : Inv B S) (hS : sg 801 = S) {x : Int32} : gF X (d + 2) 234 [vR 800, vI x] p sg (fun r => r = gRv p sg (if ¬ okx x (sn S 9) then 1 else 0)) :=
  gF_mono (s_234r hS) (fun r hr => hr.trans (congrArg (gRv p sg) (g_ite (not_congr (okx_in hI.c9 (by have := hI.b9; omega))))))

theorem s_237r {X : Nat × (Nat → Int32)} {d : Nat} {p : Nat → Nat} {sg : Mg} {S : Nat → Int32} (hS : sg 801 = S) {x : Int32} : gF X (d + 2) 237 [vR 800, vI x] p sg (fun r => r = gRv p sg (if ¬ (¬ (x < 0) ∧ ¬ ((S 1 - 1) < x)) then 1 else 0)) := by
  refine g_in (cd := k_237) (nL := 2) (rc := 13) rfl (g_A (a := 800) (kd := 0) (n := 12) rfl (by decide)) (g_c1 rfl) ?_
  show gW X (d + 1) k_237 0 [some (vR 800), some (vI x)] [] p sg _
  refine g_pure 3 (i' := 3) (lv' := [some (vR 800), some (vI x)]) (st' := [vR 800, vI 0, vI x]) rfl ?_
  refine g_cV1 rfl (args := [vR 800]) (rest := [vI 0, vI x]) rfl rfl rfl (s_203 (d := d) hS) ?_
  refine g_pure 2 (i' := 6) (lv' := [some (vR 800), some (vI x)]) (st' := [vI (S 1 - 1), vI 0, vI x]) rfl ?_
  refine g_cS1 rfl (args := [vI x, vI 0, vI (S 1 - 1)]) (rest := []) rfl rfl rfl (s_231 (d := d) ) ?_
  refine g_if1 (i' := 10) (P := (¬ (x < 0) ∧ ¬ ((S 1 - 1) < x))) rfl rfl g_neB (fun h1 => ?_) (fun h1 => ?_)
  · refine g_pure 1 (i' := 11) (lv' := [some (vR 800), some (vI x)]) (st' := [vI 0]) rfl ?_
    refine g_bret rfl g_nar0 ?_
    exact (congrArg (gRv p sg) (if_neg (fun n9 => n9 h1)).symm)
  · refine g_pure 2 (i' := 11) (lv' := [some (vR 800), some (vI x)]) (st' := [vI 1]) rfl ?_
    refine g_bret rfl g_nar1 ?_
    exact (congrArg (gRv p sg) (if_pos h1).symm)

theorem s_237 {X : Nat × (Nat → Int32)} {d : Nat} {p : Nat → Nat} {sg : Mg} {B : Nat} {S : Nat → Int32} (hI : Inv B S) (hS : sg 801 = S) {x : Int32} : gF X (d + 2) 237 [vR 800, vI x] p sg (fun r => r = gRv p sg (if ¬ okx x (sn S 1) then 1 else 0)) :=
  gF_mono (s_237r hS) (fun r hr => hr.trans (congrArg (gRv p sg) (g_ite (not_congr (okx_in hI.c1 (by have := hI.b1; omega))))))

theorem b_227_1 {X : Nat × (Nat → Int32)} {d : Nat} {p : Nat → Nat} {sg : Mg} {Q : am_R → Prop} {c : Nat} (u_c : c ≤ 9)
    (o1 : ∀ s2 : Mg, s2 = mu sg 800 0 (nI c) → Q (gRv p s2 1)) :
    gW X (d) k_227 0 [some (vR 800), some (vI 1), some (vI (nI c))] [] p sg Q := by
  refine g_pure 1 (i' := 1) (lv' := [some (vR 800), some (vI 1), some (vI (nI c))]) (st' := [vI 1]) rfl ?_
  refine g_if1 (i' := 5) (P := 1 = 0) rfl rfl (g_eqN (show 1 = nI 1 from (show (1 : Int32) = nI 1 from rfl)) (show 0 = nI 0 from (show (0 : Int32) = nI 0 from rfl)) (by omega) (by omega)) (fun h1 => absurd h1 (by omega)) (fun _ => ?_)
  refine g_pure 2 (i' := 4) (lv' := [some (vR 800), some (vI 1), some (vI (nI c))]) (st' := [vI (nI c), vR 800]) rfl ?_
  refine g_putI rfl (g_A (a := 800) (kd := 0) (n := 12) rfl (by decide)) ?_
  refine g_setv (fun s2 es2 => ?_)
  refine g_pure 1 (i' := 6) (lv' := [some (vR 800), some (vI 1), some (vI (nI c))]) (st' := [vI 1]) rfl ?_
  refine g_bret rfl g_nar1 ?_
  exact o1 s2 es2

theorem b_227_0 {X : Nat × (Nat → Int32)} {d : Nat} {p : Nat → Nat} {sg : Mg} {Q : am_R → Prop} {c : Nat} (u_c : c ≤ 9)
    (o1 : Q (gRv p sg 0)) :
    gW X (d) k_227 0 [some (vR 800), some (vI 0), some (vI (nI c))] [] p sg Q := by
  refine g_pure 1 (i' := 1) (lv' := [some (vR 800), some (vI 0), some (vI (nI c))]) (st' := [vI 0]) rfl ?_
  refine g_if1 (i' := 5) (P := 0 = 0) rfl rfl (g_eqN (show 0 = nI 0 from (show (0 : Int32) = nI 0 from rfl)) (show 0 = nI 0 from (show (0 : Int32) = nI 0 from rfl)) (by omega) (by omega)) (fun _ => ?_) (fun h1 => absurd (by omega) h1)
  refine g_pure 1 (i' := 6) (lv' := [some (vR 800), some (vI 0), some (vI (nI c))]) (st' := [vI 0]) rfl ?_
  refine g_bret rfl g_nar0 ?_
  exact o1

theorem s_227t {X : Nat × (Nat → Int32)} {d : Nat} {p : Nat → Nat} {sg : Mg} {c : Nat} (hc : c ≤ 9) : gF X (d + 1) 227 [vR 800, vI 1, vI (nI c)] p sg (fun r => r = gRv p (mu sg 800 0 (nI c)) 1) :=
  g_in (cd := k_227) (nL := 3) (rc := 13) rfl (g_A (a := 800) (kd := 0) (n := 12) rfl (by decide)) (g_c1 rfl) (b_227_1 hc (fun s e => by rw [e]))
theorem s_227f {X : Nat × (Nat → Int32)} {d : Nat} {p : Nat → Nat} {sg : Mg} {c : Nat} (hc : c ≤ 9) : gF X (d + 1) 227 [vR 800, vI 0, vI (nI c)] p sg (fun r => r = gRv p sg 0) :=
  g_in (cd := k_227) (nL := 3) (rc := 13) rfl (g_A (a := 800) (kd := 0) (n := 12) rfl (by decide)) (g_c1 rfl) (b_227_0 hc rfl)

theorem s_232 {X : Nat × (Nat → Int32)} {d : Nat} {p : Nat → Nat} {sg : Mg} {B : Nat} {S : Nat → Int32} (hI : Inv B S) (hS : sg 801 = S) {v : Nat} {t : Nat} (u_v : v ≤ 5) (u_t : t ≤ 100000000) : gF X (d + 2) 232 [vR 800, vI (nI v), vI (nI t)] p sg (fun r => r = gRv p sg (S (17 + 16 * v + (t % (sn S 9))))) := by
  have b0 := hI.b0; have b1 := hI.b1; have b2 := hI.b2; have b3 := hI.b3; have b4 := hI.b4; have b5 := hI.b5; have b6 := hI.b6; have b7 := hI.b7; have b8 := hI.b8; have b9 := hI.b9; have b14 := hI.b14
  refine g_in (cd := k_232) (nL := 3) (rc := 13) rfl (g_A (a := 800) (kd := 0) (n := 12) rfl (by decide)) (g_c1 rfl) ?_
  show gW X (d + 1) k_232 0 [some (vR 800), some (vI (nI v)), some (vI (nI t))] [] p sg _
  refine g_pure 4 (i' := 4) (lv' := [some (vR 800), some (vI (nI v)), some (vI (nI t))]) (st' := [vR 800, vI (nI t), vI (nI v), vR 800]) rfl ?_
  refine g_cV1 rfl (args := [vR 800]) (rest := [vI (nI t), vI (nI v), vR 800]) rfl rfl rfl (s_199 (d := d) hS) ?_
  refine g_rem rfl (g_nz (hI.c9) (by omega) (by omega)) ?_
  have t1 : (t % (sn S 9)) < sn S 9 := Nat.mod_lt _ (by omega)
  refine gW_eq (lv' := [some (vR 800), some (vI (nI v)), some (vI (nI t))]) (st' := [vI (nI (t % (sn S 9))), vI (nI v), vR 800]) rfl (by rw [(show (nI t - nI t / S 9 * S 9) = nI (t % (sn S 9)) from (g_modN (rfl : nI t = nI t) (hI.c9) (by omega) (by omega) (by omega)))]) rfl ?_
  refine g_cV1 rfl (args := [vR 800, vI (nI v), vI (nI (t % (sn S 9)))]) (rest := []) rfl rfl rfl (s_217 (d := d) hS (by omega) (by omega)) ?_
  refine g_iret rfl ?_
  exact rfl

theorem b_216_0 {X : Nat × (Nat → Int32)} {d : Nat} {p : Nat → Nat} {sg : Mg} {Q : am_R → Prop} {B : Nat} {S : Nat → Int32} (hI : Inv B S) (hS : sg 801 = S) {v : Nat} {e : Nat} (u_v : v ≤ 5) (u_e : e ≤ 15) (q1 : v < sn S 0)
    (o1 : gW X (d + 1) k_216 2 [some (vR 800), some (vI (nI v)), some (vI (nI e)), some (vI 0)] [] p sg Q) :
    gW X (d + 1) k_216 0 [some (vR 800), some (vI (nI v)), some (vI (nI e)), none] [] p sg Q := by
  have b0 := hI.b0; have b1 := hI.b1; have b2 := hI.b2; have b3 := hI.b3; have b4 := hI.b4; have b5 := hI.b5; have b6 := hI.b6; have b7 := hI.b7; have b8 := hI.b8; have b9 := hI.b9; have b14 := hI.b14
  refine g_pure 2 (i' := 2) (lv' := [some (vR 800), some (vI (nI v)), some (vI (nI e)), some (vI 0)]) (st' := []) rfl ?_
  exact o1

theorem b_216_2 {X : Nat × (Nat → Int32)} {d : Nat} {p : Nat → Nat} {sg : Mg} {Q : am_R → Prop} {B : Nat} {S : Nat → Int32} (hI : Inv B S) (hS : sg 801 = S) {v : Nat} {e : Nat} {k : Nat} (u_v : v ≤ 5) (u_e : e ≤ 15) (u_k : k ≤ 15) (q1 : v < sn S 0) (q2 : k < sn S 9)
    (o1 : (sn S (17 + 16 * v + k) = e) → Q (gRv p sg (nI k)))
    (o2 : (¬ (sn S (17 + 16 * v + k) = e)) → gW X (d + 1) k_216 2 [some (vR 800), some (vI (nI v)), some (vI (nI e)), some (vI (nI (k + 1)))] [] p sg Q) :
    gW X (d + 1) k_216 2 [some (vR 800), some (vI (nI v)), some (vI (nI e)), some (vI (nI k))] [] p sg Q := by
  have b0 := hI.b0; have b1 := hI.b1; have b2 := hI.b2; have b3 := hI.b3; have b4 := hI.b4; have b5 := hI.b5; have b6 := hI.b6; have b7 := hI.b7; have b8 := hI.b8; have b9 := hI.b9; have b14 := hI.b14
  refine g_pure 3 (i' := 5) (lv' := [some (vR 800), some (vI (nI v)), some (vI (nI e)), some (vI (nI k))]) (st' := [vI (nI k), vI (nI v), vR 800]) rfl ?_
  refine g_cV1 rfl (args := [vR 800, vI (nI v), vI (nI k)]) (rest := []) rfl rfl rfl (s_217 (d := d) hS (by omega) (by omega)) ?_
  refine g_pure 1 (i' := 7) (lv' := [some (vR 800), some (vI (nI v)), some (vI (nI e)), some (vI (nI k))]) (st' := [vI (nI e), vI (S (17 + 16 * v + k))]) rfl ?_
  have t1 := hI.tbb (v := v) (q := k) (by omega) (by omega)
  refine g_if2 (i' := 10) (P := sn S (17 + 16 * v + k) = e) rfl rfl (g_eqN (show S (17 + 16 * v + k) = nI (sn S (17 + 16 * v + k)) from (hI.tb (by omega) (by omega))) (show nI e = nI e from (rfl : nI e = nI e)) (by omega) (by omega)) (fun h2 => ?_) (fun h2 => ?_)
  · refine g_pure 1 (i' := 11) (lv' := [some (vR 800), some (vI (nI v)), some (vI (nI e)), some (vI (nI k))]) (st' := [vI (nI k)]) rfl ?_
    refine g_iret rfl ?_
    exact o1 h2
  · refine g_pure 2 (i' := 2) (lv' := [some (vR 800), some (vI (nI v)), some (vI (nI e)), some (vI (nI k + 1))]) (st' := []) rfl ?_
    refine gW_eq (lv' := [some (vR 800), some (vI (nI v)), some (vI (nI e)), some (vI (nI (k + 1)))]) (st' := []) (by rw [(show (nI k + 1) = nI (k + 1) from ((g_add (rfl : nI k = nI k) (show (1 : Int32) = nI 1 from rfl))).trans (congrArg nI (by omega)))]) rfl rfl ?_
    exact o2 h2

theorem s_216 {X : Nat × (Nat → Int32)} {d : Nat} {p : Nat → Nat} {sg : Mg} {B : Nat} {S : Nat → Int32} (hI : Inv B S) (hS : sg 801 = S) {v e : Nat} (hv : v < sn S 0) (he : e < sn S 9) : gF X (d + 2) 216 [vR 800, vI (nI v), vI (nI e)] p sg (fun r => r = gRv p sg (nI (pgf S v e))) := by
  have b0 := hI.b0
  have b9 := hI.b9
  obtain ⟨f1, f2, f3⟩ := pgf_ok hI hv he
  refine g_in (cd := k_216) (nL := 4) (rc := 13) rfl (g_A (a := 800) (kd := 0) (n := 12) rfl (by decide)) (g_c1 rfl) (b_216_0 hI hS (by omega) (by omega) hv ?_)
  refine g_down (P := fun k => gW X (d + 1) k_216 2 [some (vR 800), some (vI (nI v)), some (vI (nI e)), some (vI (nI k))] [] p sg _) (n := pgf S v e) (fun k hk ih => ?_) ?_
  · exact b_216_2 hI hS (by omega) (by omega) (by omega) hv (by omega) (fun h => by have := f3 k (by omega) h; omega) (fun _ => ih)
  · exact b_216_2 hI hS (by omega) (by omega) (by omega) hv (by omega) (fun _ => rfl) (fun h => absurd f2 h)
