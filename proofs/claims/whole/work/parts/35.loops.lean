/-! LOOPS THAT ONLY ASK (made by wip/whole/gen35.py) -/
theorem g_upI {P I : Nat → Prop} {a n : Nat} (ha : a ≤ n) (h0 : I a) (hs : ∀ k, a ≤ k → k < n → I k → (I (k + 1) → P (k + 1)) → P k) (hn : I n → P n) : P a := by
  have h : ∀ m j, j + m = n → a ≤ j → I j → P j := by
    intro m
    induction m with
    | zero => intro j hj _ hi; have e : j = n := by omega
              subst e; exact hn hi
    | succ m ih => intro j hj haj hi; exact hs j haj (by omega) hi (fun h => ih (j + 1) (by omega) (by omega) h)
  exact h (n - a) a (by omega) (by omega) h0
/-- who else is in the same village -/
def cmpP (S : Nat → Int32) (k j : Nat) : Bool := decide (j ≠ k ∧ S (113 + 6 * k) ≠ -1 ∧ S (113 + 6 * j) = S (113 + 6 * k))
def togP (S : Nat → Int32) (v : Int32) (j : Nat) : Bool := decide (S (113 + 6 * j) = v)

theorem b_112_0 {X : Nat × (Nat → Int32)} {d : Nat} {p : Nat → Nat} {sg : Mg} {Q : am_R → Prop} {B : Nat} {S : Nat → Int32} (hI : Inv B S) (hL : cwL 250 sg S) (hD : cwD 200 sg S) {k : Nat} (u_k : k ≤ 7) (q1 : k < sn S 1)
    (o1 : gW X (d) k_112 4 [some (vR 200), some (vI (nI k)), some (vI 0), some (vI 0)] [] p sg Q) :
    gW X (d) k_112 0 [some (vR 200), some (vI (nI k)), none, none] [] p sg Q := by
  have b0 := hI.b0; have b1 := hI.b1; have b2 := hI.b2; have b3 := hI.b3; have b4 := hI.b4; have b5 := hI.b5; have b6 := hI.b6; have b7 := hI.b7; have b8 := hI.b8; have b9 := hI.b9; have b14 := hI.b14
  refine g_pure 4 (i' := 4) (lv' := [some (vR 200), some (vI (nI k)), some (vI 0), some (vI 0)]) (st' := []) rfl ?_
  exact o1

theorem b_112_4 {X : Nat × (Nat → Int32)} {d : Nat} {p : Nat → Nat} {sg : Mg} {Q : am_R → Prop} {B : Nat} {S : Nat → Int32} (hI : Inv B S) (hL : cwL 250 sg S) (hD : cwD 200 sg S) {k : Nat} {t : Int32} {j : Nat} (u_k : k ≤ 7) (u_j : j ≤ 8) (q1 : k < sn S 1)
    (o1 : (sn S 1 ≤ j) → Q (gRv p sg t))
    (o2 : (¬ (sn S 1 ≤ j)) → (j = k) → gW X (d) k_112 4 [some (vR 200), some (vI (nI k)), some (vI t), some (vI (nI (j + 1)))] [] p sg Q)
    (o3 : (¬ (sn S 1 ≤ j)) → (¬ (j = k)) → (S (113 + 6 * k) = (-1)) → gW X (d) k_112 4 [some (vR 200), some (vI (nI k)), some (vI t), some (vI (nI (j + 1)))] [] p sg Q)
    (o4 : (¬ (sn S 1 ≤ j)) → (¬ (j = k)) → (¬ (S (113 + 6 * k) = (-1))) → (¬ S (113 + 6 * j) = S (113 + 6 * k)) → gW X (d) k_112 4 [some (vR 200), some (vI (nI k)), some (vI t), some (vI (nI (j + 1)))] [] p sg Q)
    (o5 : (¬ (sn S 1 ≤ j)) → (¬ (j = k)) → (¬ (S (113 + 6 * k) = (-1))) → (S (113 + 6 * j) = S (113 + 6 * k)) → gW X (d) k_112 4 [some (vR 200), some (vI (nI k)), some (vI (t ||| (1 <<< (nI j &&& 31)))), some (vI (nI (j + 1)))] [] p sg Q) :
    gW X (d) k_112 4 [some (vR 200), some (vI (nI k)), some (vI t), some (vI (nI j))] [] p sg Q := by
  have b0 := hI.b0; have b1 := hI.b1; have b2 := hI.b2; have b3 := hI.b3; have b4 := hI.b4; have b5 := hI.b5; have b6 := hI.b6; have b7 := hI.b7; have b8 := hI.b8; have b9 := hI.b9; have b14 := hI.b14
  refine g_pure 5 (i' := 9) (lv' := [some (vR 200), some (vI (nI k)), some (vI t), some (vI (nI j))]) (st' := [vI 1, vR 203, vI (nI j)]) rfl ?_
  refine g_ald rfl (g_A (a := 203) (kd := 1) (n := 6) rfl (by decide)) (by decide) (show 1 = nI 1 from (show (1 : Int32) = nI 1 from rfl)) (by decide) (show _ = S 1 from (hD.cnt (by decide))) ?_
  refine g_if2 (i' := 40) (P := sn S 1 ≤ j) rfl rfl (g_geN (show nI j = nI j from (rfl : nI j = nI j)) (show S 1 = nI (sn S 1) from (hI.c1)) (by omega) (by omega)) (fun h1 => ?_) (fun h1 => ?_)
  · refine g_pure 1 (i' := 41) (lv' := [some (vR 200), some (vI (nI k)), some (vI t), some (vI (nI j))]) (st' := [vI t]) rfl ?_
    refine g_iret rfl ?_
    exact o1 h1
  · refine g_pure 2 (i' := 13) (lv' := [some (vR 200), some (vI (nI k)), some (vI t), some (vI (nI j))]) (st' := [vI (nI k), vI (nI j)]) rfl ?_
    refine g_if2 (i' := 38) (P := j = k) rfl rfl (g_eqN (show nI j = nI j from (rfl : nI j = nI j)) (show nI k = nI k from (rfl : nI k = nI k)) (by omega) (by omega)) (fun h2 => ?_) (fun h2 => ?_)
    · refine g_pure 2 (i' := 4) (lv' := [some (vR 200), some (vI (nI k)), some (vI t), some (vI (nI j + 1))]) (st' := []) rfl ?_
      refine gW_eq (lv' := [some (vR 200), some (vI (nI k)), some (vI t), some (vI (nI (j + 1)))]) (st' := []) (by rw [(show (nI j + 1) = nI (j + 1) from ((g_add (rfl : nI j = nI j) (show (1 : Int32) = nI 1 from rfl))).trans (congrArg nI (by omega)))]) rfl rfl ?_
      exact o2 h1 h2
    · refine g_pure 4 (i' := 18) (lv' := [some (vR 200), some (vI (nI k)), some (vI t), some (vI (nI j))]) (st' := [vI (nI k), vR 252]) rfl ?_
      refine g_ald rfl (g_A (a := 252) (kd := 1) (n := 8) rfl (by decide)) (by decide) (show nI k = nI k from (rfl : nI k = nI k)) (by omega) (show _ = S (113 + 6 * k) from (hL.per 0 (by decide) (by omega))) ?_
      refine g_pure 1 (i' := 20) (lv' := [some (vR 200), some (vI (nI k)), some (vI t), some (vI (nI j))]) (st' := [vI (-1), vI (S (113 + 6 * k))]) rfl ?_
      refine g_if2 (i' := 38) (P := S (113 + 6 * k) = (-1)) rfl rfl Iff.rfl (fun h3 => ?_) (fun h3 => ?_)
      · refine g_pure 2 (i' := 4) (lv' := [some (vR 200), some (vI (nI k)), some (vI t), some (vI (nI j + 1))]) (st' := []) rfl ?_
        refine gW_eq (lv' := [some (vR 200), some (vI (nI k)), some (vI t), some (vI (nI (j + 1)))]) (st' := []) (by rw [(show (nI j + 1) = nI (j + 1) from ((g_add (rfl : nI j = nI j) (show (1 : Int32) = nI 1 from rfl))).trans (congrArg nI (by omega)))]) rfl rfl ?_
        exact o3 h1 h2 h3
      · refine g_pure 4 (i' := 25) (lv' := [some (vR 200), some (vI (nI k)), some (vI t), some (vI (nI j))]) (st' := [vI (nI j), vR 252]) rfl ?_
        refine g_ald rfl (g_A (a := 252) (kd := 1) (n := 8) rfl (by decide)) (by decide) (show nI j = nI j from (rfl : nI j = nI j)) (by omega) (show _ = S (113 + 6 * j) from (hL.per 0 (by decide) (by omega))) ?_
        refine g_pure 4 (i' := 30) (lv' := [some (vR 200), some (vI (nI k)), some (vI t), some (vI (nI j))]) (st' := [vI (nI k), vR 252, vI (S (113 + 6 * j))]) rfl ?_
        refine g_ald rfl (g_A (a := 252) (kd := 1) (n := 8) rfl (by decide)) (by decide) (show nI k = nI k from (rfl : nI k = nI k)) (by omega) (show _ = S (113 + 6 * k) from (hL.per 0 (by decide) (by omega))) ?_
        refine g_if2 (i' := 38) (P := ¬ S (113 + 6 * j) = S (113 + 6 * k)) rfl rfl Iff.rfl (fun h4 => ?_) (fun h4 => ?_)
        · refine g_pure 2 (i' := 4) (lv' := [some (vR 200), some (vI (nI k)), some (vI t), some (vI (nI j + 1))]) (st' := []) rfl ?_
          refine gW_eq (lv' := [some (vR 200), some (vI (nI k)), some (vI t), some (vI (nI (j + 1)))]) (st' := []) (by rw [(show (nI j + 1) = nI (j + 1) from ((g_add (rfl : nI j = nI j) (show (1 : Int32) = nI 1 from rfl))).trans (congrArg nI (by omega)))]) rfl rfl ?_
          exact o4 h1 h2 h3 h4
        · have h4 := Classical.not_not.mp h4
          refine g_pure 8 (i' := 4) (lv' := [some (vR 200), some (vI (nI k)), some (vI (t ||| (1 <<< (nI j &&& 31)))), some (vI (nI j + 1))]) (st' := []) rfl ?_
          refine gW_eq (lv' := [some (vR 200), some (vI (nI k)), some (vI (t ||| (1 <<< (nI j &&& 31)))), some (vI (nI (j + 1)))]) (st' := []) (by rw [(show (nI j + 1) = nI (j + 1) from ((g_add (rfl : nI j = nI j) (show (1 : Int32) = nI 1 from rfl))).trans (congrArg nI (by omega)))]) rfl rfl ?_
          exact o5 h1 h2 h3 h4

theorem l_112_4 {X : Nat × (Nat → Int32)} {d : Nat} {p : Nat → Nat} {sg : Mg} {Q : am_R → Prop} {B : Nat} {S : Nat → Int32} (hI : Inv B S) (hL : cwL 250 sg S) (hD : cwD 200 sg S) {k : Nat} (u_k : k ≤ 7) (q1 : k < sn S 1) 
    (x1 : Q (gRv p sg (nI (bset (cmpP S k) (sn S 1))))) :
    gW X (d) k_112 4 [some (vR 200), some (vI (nI k)), some (vI (nI (bset (cmpP S k) 0))), some (vI (nI 0))] [] p sg Q := by
  have b0 := hI.b0; have b1 := hI.b1; have b2 := hI.b2; have b3 := hI.b3; have b4 := hI.b4; have b5 := hI.b5; have b6 := hI.b6; have b7 := hI.b7; have b8 := hI.b8; have b9 := hI.b9; have b14 := hI.b14
  refine g_upI (P := fun j => gW X (d) k_112 4 [some (vR 200), some (vI (nI k)), some (vI (nI (bset (cmpP S k) j))), some (vI (nI j))] [] p sg Q) (I := fun j => True) (n := sn S 1) (a := 0) (by omega) trivial (fun j hj0 hj hi ih => ?_) (fun hi => ?_)
  · have ih : True → gW X (d) k_112 4 [some (vR 200), some (vI (nI k)), some (vI (nI (bset (cmpP S k) (j + 1)))), some (vI (nI (j + 1)))] [] p sg Q := ih
    exact b_112_4 hI hL hD (by omega) (by omega) (by omega) (fun h1 => by omega) (fun h1 h2 => by rw [show ((nI (bset (cmpP S k) j)) : Int32) = (nI (bset (cmpP S k) (j + 1))) from by simp [bset, cmpP, nI_orbit (show j < 32 by omega), *]]; exact ih trivial) (fun h1 h2 h3 => by rw [show ((nI (bset (cmpP S k) j)) : Int32) = (nI (bset (cmpP S k) (j + 1))) from by simp [bset, cmpP, nI_orbit (show j < 32 by omega), *]]; exact ih trivial) (fun h1 h2 h3 h4 => by rw [show ((nI (bset (cmpP S k) j)) : Int32) = (nI (bset (cmpP S k) (j + 1))) from by simp [bset, cmpP, nI_orbit (show j < 32 by omega), *]]; exact ih trivial) (fun h1 h2 h3 h4 => by rw [show (((nI (bset (cmpP S k) j)) ||| (1 <<< (nI j &&& 31))) : Int32) = (nI (bset (cmpP S k) (j + 1))) from by simp [bset, cmpP, nI_orbit (show j < 32 by omega), *]]; exact ih trivial)
  · exact b_112_4 hI hL hD (by omega) (by omega) (by omega) (fun _ => x1) (fun h1 h2 => by omega) (fun h1 h2 h3 => by omega) (fun h1 h2 h3 h4 => by omega) (fun h1 h2 h3 h4 => by omega)

theorem s_112 {X : Nat × (Nat → Int32)} {d : Nat} {p : Nat → Nat} {sg : Mg} {B : Nat} {S : Nat → Int32} (hI : Inv B S) (hL : cwL 250 sg S) (hD : cwD 200 sg S) {k : Nat} (hk : k < sn S 1) : gF X (d + 1) 112 [vR 200, vI (nI k)] p sg (fun r => r = gRv p sg (nI (bset (cmpP S k) (sn S 1)))) := by
  have b1 := hI.b1
  exact g_in (cd := k_112) (nL := 4) (rc := 11) rfl (g_A (a := 200) (kd := 0) (n := 10) rfl (by decide)) (g_c1 rfl) (b_112_0 hI hL hD (by omega) hk (l_112_4 hI hL hD (by omega) hk rfl))

theorem b_239_0 {X : Nat × (Nat → Int32)} {d : Nat} {p : Nat → Nat} {sg : Mg} {Q : am_R → Prop} {B : Nat} {S : Nat → Int32} (hI : Inv B S) (hS : sg 801 = S) {v : Int32}
    (o1 : gW X (d + 1) k_239 4 [some (vR 800), some (vI v), some (vI 0), some (vI 0)] [] p sg Q) :
    gW X (d + 1) k_239 0 [some (vR 800), some (vI v), none, none] [] p sg Q := by
  have b0 := hI.b0; have b1 := hI.b1; have b2 := hI.b2; have b3 := hI.b3; have b4 := hI.b4; have b5 := hI.b5; have b6 := hI.b6; have b7 := hI.b7; have b8 := hI.b8; have b9 := hI.b9; have b14 := hI.b14
  refine g_pure 4 (i' := 4) (lv' := [some (vR 800), some (vI v), some (vI 0), some (vI 0)]) (st' := []) rfl ?_
  exact o1

theorem b_239_4 {X : Nat × (Nat → Int32)} {d : Nat} {p : Nat → Nat} {sg : Mg} {Q : am_R → Prop} {B : Nat} {S : Nat → Int32} (hI : Inv B S) (hS : sg 801 = S) {v : Int32} {t : Int32} {j : Nat} (u_j : j ≤ 8)
    (o1 : (sn S 1 ≤ j) → Q (gRv p sg t))
    (o2 : (¬ (sn S 1 ≤ j)) → (¬ S (113 + 6 * j) = v) → gW X (d + 1) k_239 4 [some (vR 800), some (vI v), some (vI (t ||| 0)), some (vI (nI (j + 1)))] [] p sg Q)
    (o3 : (¬ (sn S 1 ≤ j)) → (S (113 + 6 * j) = v) → gW X (d + 1) k_239 4 [some (vR 800), some (vI v), some (vI (t ||| (1 <<< (nI j &&& 31)))), some (vI (nI (j + 1)))] [] p sg Q) :
    gW X (d + 1) k_239 4 [some (vR 800), some (vI v), some (vI t), some (vI (nI j))] [] p sg Q := by
  have b0 := hI.b0; have b1 := hI.b1; have b2 := hI.b2; have b3 := hI.b3; have b4 := hI.b4; have b5 := hI.b5; have b6 := hI.b6; have b7 := hI.b7; have b8 := hI.b8; have b9 := hI.b9; have b14 := hI.b14
  refine g_pure 2 (i' := 6) (lv' := [some (vR 800), some (vI v), some (vI t), some (vI (nI j))]) (st' := [vR 800, vI (nI j)]) rfl ?_
  refine g_cV1 rfl (args := [vR 800]) (rest := [vI (nI j)]) rfl rfl rfl (s_203 (d := d) hS) ?_
  refine g_if2 (i' := 24) (P := sn S 1 ≤ j) rfl rfl (g_geN (show nI j = nI j from (rfl : nI j = nI j)) (show S 1 = nI (sn S 1) from (hI.c1)) (by omega) (by omega)) (fun h1 => ?_) (fun h1 => ?_)
  · refine g_pure 1 (i' := 25) (lv' := [some (vR 800), some (vI v), some (vI t), some (vI (nI j))]) (st' := [vI t]) rfl ?_
    refine g_iret rfl ?_
    exact o1 h1
  · refine g_pure 4 (i' := 12) (lv' := [some (vR 800), some (vI v), some (vI t), some (vI (nI j))]) (st' := [vI 0, vI (nI j), vR 800, vI t]) rfl ?_
    refine gW_eq (st' := [vI (nI 0), vI (nI j), vR 800, vI t]) rfl (by rw [(show (0 : Int32) = nI 0 from rfl)]) rfl ?_
    refine g_cV1 rfl (args := [vR 800, vI (nI j), vI (nI 0)]) (rest := [vI t]) rfl rfl rfl (s_238 (d := d) hS (by omega) (by omega)) ?_
    refine gW_eq (st' := [vI (S (113 + 6 * j)), vI t]) rfl (by rw [show S (113 + 6 * j + 0) = S (113 + 6 * j) from congrArg S (by omega)]) rfl ?_
    refine g_pure 1 (i' := 14) (lv' := [some (vR 800), some (vI v), some (vI t), some (vI (nI j))]) (st' := [vI v, vI (S (113 + 6 * j)), vI t]) rfl ?_
    refine g_if2 (i' := 19) (P := ¬ S (113 + 6 * j) = v) rfl rfl Iff.rfl (fun h2 => ?_) (fun h2 => ?_)
    · refine g_pure 5 (i' := 4) (lv' := [some (vR 800), some (vI v), some (vI (t ||| 0)), some (vI (nI j + 1))]) (st' := []) rfl ?_
      refine gW_eq (lv' := [some (vR 800), some (vI v), some (vI (t ||| 0)), some (vI (nI (j + 1)))]) (st' := []) (by rw [(show (nI j + 1) = nI (j + 1) from ((g_add (rfl : nI j = nI j) (show (1 : Int32) = nI 1 from rfl))).trans (congrArg nI (by omega)))]) rfl rfl ?_
      exact o2 h1 h2
    · have h2 := Classical.not_not.mp h2
      refine g_pure 8 (i' := 4) (lv' := [some (vR 800), some (vI v), some (vI (t ||| (1 <<< (nI j &&& 31)))), some (vI (nI j + 1))]) (st' := []) rfl ?_
      refine gW_eq (lv' := [some (vR 800), some (vI v), some (vI (t ||| (1 <<< (nI j &&& 31)))), some (vI (nI (j + 1)))]) (st' := []) (by rw [(show (nI j + 1) = nI (j + 1) from ((g_add (rfl : nI j = nI j) (show (1 : Int32) = nI 1 from rfl))).trans (congrArg nI (by omega)))]) rfl rfl ?_
      exact o3 h1 h2

theorem l_239_4 {X : Nat × (Nat → Int32)} {d : Nat} {p : Nat → Nat} {sg : Mg} {Q : am_R → Prop} {B : Nat} {S : Nat → Int32} (hI : Inv B S) (hS : sg 801 = S) {v : Int32} 
    (x1 : Q (gRv p sg (nI (bset (togP S v) (sn S 1))))) :
    gW X (d + 1) k_239 4 [some (vR 800), some (vI v), some (vI (nI (bset (togP S v) 0))), some (vI (nI 0))] [] p sg Q := by
  have b0 := hI.b0; have b1 := hI.b1; have b2 := hI.b2; have b3 := hI.b3; have b4 := hI.b4; have b5 := hI.b5; have b6 := hI.b6; have b7 := hI.b7; have b8 := hI.b8; have b9 := hI.b9; have b14 := hI.b14
  refine g_upI (P := fun j => gW X (d + 1) k_239 4 [some (vR 800), some (vI v), some (vI (nI (bset (togP S v) j))), some (vI (nI j))] [] p sg Q) (I := fun j => True) (n := sn S 1) (a := 0) (by omega) trivial (fun j hj0 hj hi ih => ?_) (fun hi => ?_)
  · have ih : True → gW X (d + 1) k_239 4 [some (vR 800), some (vI v), some (vI (nI (bset (togP S v) (j + 1)))), some (vI (nI (j + 1)))] [] p sg Q := ih
    exact b_239_4 hI hS (by omega) (fun h1 => by omega) (fun h1 h2 => by rw [show (((nI (bset (togP S v) j)) ||| 0) : Int32) = (nI (bset (togP S v) (j + 1))) from by simp [bset, togP, nI_orbit (show j < 32 by omega), *]]; exact ih trivial) (fun h1 h2 => by rw [show (((nI (bset (togP S v) j)) ||| (1 <<< (nI j &&& 31))) : Int32) = (nI (bset (togP S v) (j + 1))) from by simp [bset, togP, nI_orbit (show j < 32 by omega), *]]; exact ih trivial)
  · exact b_239_4 hI hS (by omega) (fun _ => x1) (fun h1 h2 => by omega) (fun h1 h2 => by omega)

theorem s_239 {X : Nat × (Nat → Int32)} {d : Nat} {p : Nat → Nat} {sg : Mg} {B : Nat} {S : Nat → Int32} (hI : Inv B S) (hS : sg 801 = S) {v : Int32} : gF X (d + 2) 239 [vR 800, vI v] p sg (fun r => r = gRv p sg (nI (bset (togP S v) (sn S 1)))) :=
  g_in (cd := k_239) (nL := 4) (rc := 13) rfl (g_A (a := 800) (kd := 0) (n := 12) rfl (by decide)) (g_c1 rfl) (b_239_0 hI hS (l_239_4 hI hS rfl))

def alkP (S : Nat → Int32) (v u s k : Nat) : Bool := decide (sn S (17 + 16 * v + k % sn S 9) = sn S (17 + 16 * u + (k + s) % sn S 9))
def alk (S : Nat → Int32) (v u s : Nat) : Nat := cnt (alkP S v u s) (sn S 9)
theorem alk_le {B : Nat} {S : Nat → Int32} (hI : Inv B S) (v u s : Nat) : alk S v u s ≤ 16 := Nat.le_trans (cnt_le _ _) hI.b9.2
/-- the first of the greatest -/
def bst (f : Nat → Nat) : Nat → Nat
  | 0 => 0
  | 1 => 0
  | n + 2 => if f (bst f (n + 1)) < f (n + 1) then n + 1 else bst f (n + 1)
theorem bst_succ (f : Nat → Nat) {k : Nat} (hk : 1 ≤ k) : bst f (k + 1) = if f (bst f k) < f k then k else bst f k := by
  obtain ⟨m, rfl⟩ : ∃ m, k = m + 1 := ⟨k - 1, by omega⟩
  rfl
theorem bst_le (f : Nat → Nat) : ∀ n, bst f n ≤ n
  | 0 => Nat.le_refl _
  | 1 => Nat.zero_le _
  | n + 2 => by
    have := bst_le f (n + 1)
    simp only [bst]
    split <;> omega
theorem bst_lt (f : Nat → Nat) {n : Nat} (h : 0 < n) : bst f n < n := by
  rcases Nat.lt_or_ge 1 n with h1 | h1
  · obtain ⟨m, rfl⟩ : ∃ m, n = m + 1 := ⟨n - 1, by omega⟩
    have := bst_le f m
    rw [bst_succ f (by omega)]
    split <;> omega
  · have e : n = 1 := by omega
    subst e
    exact Nat.zero_lt_one
/-- all k below n -/
def allb (P : Nat → Bool) : Nat → Bool
  | 0 => true
  | n + 1 => allb P n && P n
theorem allb_iff {P : Nat → Bool} : ∀ {n : Nat}, allb P n = true ↔ ∀ k, k < n → P k = true
  | 0 => by simp [allb]
  | n + 1 => by
    rw [allb, Bool.and_eq_true, allb_iff]
    constructor
    · rintro ⟨h1, h2⟩ k hk
      rcases Nat.lt_succ_iff_lt_or_eq.mp hk with h | h
      · exact h1 k h
      · rw [h]; exact h2
    · intro h
      exact ⟨fun k hk => h k (by omega), h n (by omega)⟩
theorem allb_no {P : Nat → Bool} {n k : Nat} (hk : k < n) (h : P k = false) : allb P n = false := by
  cases e : allb P n
  · rfl
  · rw [allb_iff.mp e k hk] at h; cases h

theorem b_l_119_4 {X : Nat × (Nat → Int32)} {d : Nat} {p : Nat → Nat} {sg : Mg} {Q : am_R → Prop} {B : Nat} {S : Nat → Int32} (hI : Inv B S) (hL : cwL 250 sg S) (hD : cwD 200 sg S) {v : Nat} {u : Nat} {s : Nat} {c : Nat} {k : Nat} (u_v : v ≤ 5) (u_u : u ≤ 5) (u_s : s ≤ 16) (u_c : c ≤ 16) (u_k : k ≤ 16) (q1 : v < sn S 0) (q2 : u < sn S 0)
    (o1 : (sn S 9 ≤ k) → Q (gRv p sg (nI c)))
    (o2 : (¬ (sn S 9 ≤ k)) → (¬ sn S (17 + 16 * v + (k % sn S 9)) = sn S (17 + 16 * u + ((k + s) % sn S 9))) → gW X (d + 3) k_119 4 [some (vR 200), some (vI (nI v)), some (vI (nI u)), some (vI (nI s)), some (vI (nI c)), some (vI (nI (k + 1)))] [] p sg Q)
    (o3 : (¬ (sn S 9 ≤ k)) → (sn S (17 + 16 * v + (k % sn S 9)) = sn S (17 + 16 * u + ((k + s) % sn S 9))) → gW X (d + 3) k_119 4 [some (vR 200), some (vI (nI v)), some (vI (nI u)), some (vI (nI s)), some (vI (nI (c + 1))), some (vI (nI (k + 1)))] [] p sg Q) :
    gW X (d + 3) k_119 4 [some (vR 200), some (vI (nI v)), some (vI (nI u)), some (vI (nI s)), some (vI (nI c)), some (vI (nI k))] [] p sg Q := by
  have b0 := hI.b0; have b1 := hI.b1; have b2 := hI.b2; have b3 := hI.b3; have b4 := hI.b4; have b5 := hI.b5; have b6 := hI.b6; have b7 := hI.b7; have b8 := hI.b8; have b9 := hI.b9; have b14 := hI.b14
  refine g_pure 3 (i' := 7) (lv' := [some (vR 200), some (vI (nI v)), some (vI (nI u)), some (vI (nI s)), some (vI (nI c)), some (vI (nI k))]) (st' := [vR 202, vI (nI k)]) rfl ?_
  refine g_getI rfl (g_A (a := 202) (kd := 0) (n := 3) rfl (by decide)) (show _ = S 9 from hD.f5) ?_
  refine g_if2 (i' := 23) (P := sn S 9 ≤ k) rfl rfl (g_geN (show nI k = nI k from (rfl : nI k = nI k)) (show S 9 = nI (sn S 9) from (hI.c9)) (by omega) (by omega)) (fun h1 => ?_) (fun h1 => ?_)
  · refine g_pure 1 (i' := 24) (lv' := [some (vR 200), some (vI (nI v)), some (vI (nI u)), some (vI (nI s)), some (vI (nI c)), some (vI (nI k))]) (st' := [vI (nI c)]) rfl ?_
    refine g_iret rfl ?_
    exact o1 h1
  · refine g_pure 3 (i' := 12) (lv' := [some (vR 200), some (vI (nI v)), some (vI (nI u)), some (vI (nI s)), some (vI (nI c)), some (vI (nI k))]) (st' := [vI (nI k), vI (nI v), vR 200]) rfl ?_
    refine g_cV1 rfl (args := [vR 200, vI (nI v), vI (nI k)]) (rest := []) rfl rfl rfl (s_110 (d := d) hI hL hD (by omega) (by omega)) ?_
    have t2 := Nat.mod_lt (k) (y := sn S 9) (by omega)
    refine g_pure 5 (i' := 18) (lv' := [some (vR 200), some (vI (nI v)), some (vI (nI u)), some (vI (nI s)), some (vI (nI c)), some (vI (nI k))]) (st' := [vI (nI k + nI s), vI (nI u), vR 200, vI (S (17 + 16 * v + (k % sn S 9)))]) rfl ?_
    refine gW_eq (lv' := [some (vR 200), some (vI (nI v)), some (vI (nI u)), some (vI (nI s)), some (vI (nI c)), some (vI (nI k))]) (st' := [vI (nI (k + s)), vI (nI u), vR 200, vI (S (17 + 16 * v + (k % sn S 9)))]) rfl (by rw [(show (nI k + nI s) = nI (k + s) from ((g_add (rfl : nI k = nI k) (rfl : nI s = nI s))).trans (congrArg nI (by omega)))]) rfl ?_
    refine g_cV1 rfl (args := [vR 200, vI (nI u), vI (nI (k + s))]) (rest := [vI (S (17 + 16 * v + (k % sn S 9)))]) rfl rfl rfl (s_110 (d := d) hI hL hD (by omega) (by omega)) ?_
    have t3 := Nat.mod_lt ((k + s)) (y := sn S 9) (by omega)
    have t4 := hI.tbb (v := v) (q := k % sn S 9) (by omega) (by omega)
    have t5 := hI.tbb (v := u) (q := (k + s) % sn S 9) (by omega) (by omega)
    refine g_if2 (i' := 21) (P := ¬ sn S (17 + 16 * v + (k % sn S 9)) = sn S (17 + 16 * u + ((k + s) % sn S 9))) rfl rfl (g_neN (show S (17 + 16 * v + (k % sn S 9)) = nI (sn S (17 + 16 * v + (k % sn S 9))) from (hI.tb (by omega) (by omega))) (show S (17 + 16 * u + ((k + s) % sn S 9)) = nI (sn S (17 + 16 * u + ((k + s) % sn S 9))) from (hI.tb (by omega) (by omega))) (by omega) (by omega)) (fun h6 => ?_) (fun h6 => ?_)
    · refine g_pure 2 (i' := 4) (lv' := [some (vR 200), some (vI (nI v)), some (vI (nI u)), some (vI (nI s)), some (vI (nI c)), some (vI (nI k + 1))]) (st' := []) rfl ?_
      refine gW_eq (lv' := [some (vR 200), some (vI (nI v)), some (vI (nI u)), some (vI (nI s)), some (vI (nI c)), some (vI (nI (k + 1)))]) (st' := []) (by rw [(show (nI k + 1) = nI (k + 1) from ((g_add (rfl : nI k = nI k) (show (1 : Int32) = nI 1 from rfl))).trans (congrArg nI (by omega)))]) rfl rfl ?_
      exact o2 h1 h6
    · have h6 := Classical.not_not.mp h6
      refine g_pure 3 (i' := 4) (lv' := [some (vR 200), some (vI (nI v)), some (vI (nI u)), some (vI (nI s)), some (vI (nI c + 1)), some (vI (nI k + 1))]) (st' := []) rfl ?_
      refine gW_eq (lv' := [some (vR 200), some (vI (nI v)), some (vI (nI u)), some (vI (nI s)), some (vI (nI (c + 1))), some (vI (nI (k + 1)))]) (st' := []) (by rw [(show (nI c + 1) = nI (c + 1) from ((g_add (rfl : nI c = nI c) (show (1 : Int32) = nI 1 from rfl))).trans (congrArg nI (by omega))), (show (nI k + 1) = nI (k + 1) from ((g_add (rfl : nI k = nI k) (show (1 : Int32) = nI 1 from rfl))).trans (congrArg nI (by omega)))]) rfl rfl ?_
      exact o3 h1 h6

theorem l_119_4 {X : Nat × (Nat → Int32)} {d : Nat} {p : Nat → Nat} {sg : Mg} {Q : am_R → Prop} {B : Nat} {S : Nat → Int32} (hI : Inv B S) (hL : cwL 250 sg S) (hD : cwD 200 sg S) {v : Nat} {u : Nat} {s : Nat} (u_v : v ≤ 5) (u_u : u ≤ 5) (u_s : s ≤ 16) (q1 : v < sn S 0) (q2 : u < sn S 0) 
    (x1 : Q (gRv p sg (nI (cnt (alkP S v u s) (sn S 9))))) :
    gW X (d + 3) k_119 4 [some (vR 200), some (vI (nI v)), some (vI (nI u)), some (vI (nI s)), some (vI (nI (cnt (alkP S v u s) 0))), some (vI (nI 0))] [] p sg Q := by
  have b0 := hI.b0; have b1 := hI.b1; have b2 := hI.b2; have b3 := hI.b3; have b4 := hI.b4; have b5 := hI.b5; have b6 := hI.b6; have b7 := hI.b7; have b8 := hI.b8; have b9 := hI.b9; have b14 := hI.b14
  refine g_upI (P := fun k => gW X (d + 3) k_119 4 [some (vR 200), some (vI (nI v)), some (vI (nI u)), some (vI (nI s)), some (vI (nI (cnt (alkP S v u s) k))), some (vI (nI k))] [] p sg Q) (I := fun k => True) (n := sn S 9) (a := 0) (by omega) trivial (fun k hj0 hj hi ih => ?_) (fun hi => ?_)
  · have ih : True → gW X (d + 3) k_119 4 [some (vR 200), some (vI (nI v)), some (vI (nI u)), some (vI (nI s)), some (vI (nI (cnt (alkP S v u s) (k + 1)))), some (vI (nI (k + 1)))] [] p sg Q := ih
    have := cnt_le (alkP S v u s) k
    exact b_l_119_4 hI hL hD (by omega) (by omega) (by omega) (by omega) (by omega) (by omega) (by omega) (fun h1 => by omega) (fun h1 h2 => by rw [show ((nI (cnt (alkP S v u s) k)) : Int32) = (nI (cnt (alkP S v u s) (k + 1))) from by simp [cnt, alkP, *]]; exact ih trivial) (fun h1 h2 => by rw [show ((nI ((cnt (alkP S v u s) k) + 1)) : Int32) = (nI (cnt (alkP S v u s) (k + 1))) from by simp [cnt, alkP, *]]; exact ih trivial)
  · have := cnt_le (alkP S v u s) (sn S 9)
    exact b_l_119_4 hI hL hD (by omega) (by omega) (by omega) (by omega) (by omega) (by omega) (by omega) (fun _ => x1) (fun h1 h2 => by omega) (fun h1 h2 => by omega)

theorem s_119 {X : Nat × (Nat → Int32)} {d : Nat} {p : Nat → Nat} {sg : Mg} {B : Nat} {S : Nat → Int32} (hI : Inv B S) (hL : cwL 250 sg S) (hD : cwD 200 sg S) {v u s : Nat} (hv : v < sn S 0) (hu : u < sn S 0) (hs : s ≤ 16) : gF X (d + 4) 119 [vR 200, vI (nI v), vI (nI u), vI (nI s)] p sg (fun r => r = gRv p sg (nI (alk S v u s))) := by
  have b0 := hI.b0
  exact g_in (cd := k_119) (nL := 6) (rc := 11) rfl (g_A (a := 200) (kd := 0) (n := 10) rfl (by decide)) (g_c1 rfl) (b_119_0 hI hL hD (by omega) (by omega) hs hv hu (l_119_4 hI hL hD (by omega) (by omega) hs hv hu rfl))

theorem b_118_4 {X : Nat × (Nat → Int32)} {d : Nat} {p : Nat → Nat} {sg : Mg} {Q : am_R → Prop} {B : Nat} {S : Nat → Int32} (hI : Inv B S) (hL : cwL 250 sg S) (hD : cwD 200 sg S) {v : Nat} {u : Nat} {b : Nat} {k : Nat} (u_v : v ≤ 5) (u_u : u ≤ 5) (u_b : b ≤ 16) (u_k : k ≤ 16) (q1 : v < sn S 0) (q2 : u < sn S 0)
    (o1 : (sn S 9 ≤ k) → Q (gRv p sg (nI b)))
    (o2 : (¬ (sn S 9 ≤ k)) → (alk S v u k ≤ alk S v u b) → gW X (d + 4) k_118 4 [some (vR 200), some (vI (nI v)), some (vI (nI u)), some (vI (nI b)), some (vI (nI (k + 1)))] [] p sg Q)
    (o3 : (¬ (sn S 9 ≤ k)) → (¬ (alk S v u k ≤ alk S v u b)) → gW X (d + 4) k_118 4 [some (vR 200), some (vI (nI v)), some (vI (nI u)), some (vI (nI k)), some (vI (nI (k + 1)))] [] p sg Q) :
    gW X (d + 4) k_118 4 [some (vR 200), some (vI (nI v)), some (vI (nI u)), some (vI (nI b)), some (vI (nI k))] [] p sg Q := by
  have b0 := hI.b0; have b1 := hI.b1; have b2 := hI.b2; have b3 := hI.b3; have b4 := hI.b4; have b5 := hI.b5; have b6 := hI.b6; have b7 := hI.b7; have b8 := hI.b8; have b9 := hI.b9; have b14 := hI.b14
  refine g_pure 3 (i' := 7) (lv' := [some (vR 200), some (vI (nI v)), some (vI (nI u)), some (vI (nI b)), some (vI (nI k))]) (st' := [vR 202, vI (nI k)]) rfl ?_
  refine g_getI rfl (g_A (a := 202) (kd := 0) (n := 3) rfl (by decide)) (show _ = S 9 from hD.f5) ?_
  refine g_if2 (i' := 24) (P := sn S 9 ≤ k) rfl rfl (g_geN (show nI k = nI k from (rfl : nI k = nI k)) (show S 9 = nI (sn S 9) from (hI.c9)) (by omega) (by omega)) (fun h1 => ?_) (fun h1 => ?_)
  · refine g_pure 1 (i' := 25) (lv' := [some (vR 200), some (vI (nI v)), some (vI (nI u)), some (vI (nI b)), some (vI (nI k))]) (st' := [vI (nI b)]) rfl ?_
    refine g_iret rfl ?_
    exact o1 h1
  · refine g_pure 4 (i' := 13) (lv' := [some (vR 200), some (vI (nI v)), some (vI (nI u)), some (vI (nI b)), some (vI (nI k))]) (st' := [vI (nI k), vI (nI u), vI (nI v), vR 200]) rfl ?_
    refine g_cV1 rfl (args := [vR 200, vI (nI v), vI (nI u), vI (nI k)]) (rest := []) rfl rfl rfl (s_119 (d := d) hI hL hD (by omega) (by omega) (by omega)) ?_
    have t2 := alk_le hI v u k
    refine g_pure 4 (i' := 18) (lv' := [some (vR 200), some (vI (nI v)), some (vI (nI u)), some (vI (nI b)), some (vI (nI k))]) (st' := [vI (nI b), vI (nI u), vI (nI v), vR 200, vI (nI (alk S v u k))]) rfl ?_
    refine g_cV1 rfl (args := [vR 200, vI (nI v), vI (nI u), vI (nI b)]) (rest := [vI (nI (alk S v u k))]) rfl rfl rfl (s_119 (d := d) hI hL hD (by omega) (by omega) (by omega)) ?_
    have t3 := alk_le hI v u b
    refine g_if2 (i' := 22) (P := alk S v u k ≤ alk S v u b) rfl rfl (g_leN (show nI (alk S v u k) = nI (alk S v u k) from (rfl : nI (alk S v u k) = nI (alk S v u k))) (show nI (alk S v u b) = nI (alk S v u b) from (rfl : nI (alk S v u b) = nI (alk S v u b))) (by omega) (by omega)) (fun h4 => ?_) (fun h4 => ?_)
    · refine g_pure 2 (i' := 4) (lv' := [some (vR 200), some (vI (nI v)), some (vI (nI u)), some (vI (nI b)), some (vI (nI k + 1))]) (st' := []) rfl ?_
      refine gW_eq (lv' := [some (vR 200), some (vI (nI v)), some (vI (nI u)), some (vI (nI b)), some (vI (nI (k + 1)))]) (st' := []) (by rw [(show (nI k + 1) = nI (k + 1) from ((g_add (rfl : nI k = nI k) (show (1 : Int32) = nI 1 from rfl))).trans (congrArg nI (by omega)))]) rfl rfl ?_
      exact o2 h1 h4
    · refine g_pure 4 (i' := 4) (lv' := [some (vR 200), some (vI (nI v)), some (vI (nI u)), some (vI (nI k)), some (vI (nI k + 1))]) (st' := []) rfl ?_
      refine gW_eq (lv' := [some (vR 200), some (vI (nI v)), some (vI (nI u)), some (vI (nI k)), some (vI (nI (k + 1)))]) (st' := []) (by rw [(show (nI k + 1) = nI (k + 1) from ((g_add (rfl : nI k = nI k) (show (1 : Int32) = nI 1 from rfl))).trans (congrArg nI (by omega)))]) rfl rfl ?_
      exact o3 h1 h4

theorem l_118_4 {X : Nat × (Nat → Int32)} {d : Nat} {p : Nat → Nat} {sg : Mg} {Q : am_R → Prop} {B : Nat} {S : Nat → Int32} (hI : Inv B S) (hL : cwL 250 sg S) (hD : cwD 200 sg S) {v : Nat} {u : Nat} (u_v : v ≤ 5) (u_u : u ≤ 5) (q1 : v < sn S 0) (q2 : u < sn S 0) 
    (x1 : Q (gRv p sg (nI (bst (alk S v u) (sn S 9))))) :
    gW X (d + 4) k_118 4 [some (vR 200), some (vI (nI v)), some (vI (nI u)), some (vI (nI (bst (alk S v u) 1))), some (vI (nI 1))] [] p sg Q := by
  have b0 := hI.b0; have b1 := hI.b1; have b2 := hI.b2; have b3 := hI.b3; have b4 := hI.b4; have b5 := hI.b5; have b6 := hI.b6; have b7 := hI.b7; have b8 := hI.b8; have b9 := hI.b9; have b14 := hI.b14
  refine g_upI (P := fun k => gW X (d + 4) k_118 4 [some (vR 200), some (vI (nI v)), some (vI (nI u)), some (vI (nI (bst (alk S v u) k))), some (vI (nI k))] [] p sg Q) (I := fun k => True) (n := sn S 9) (a := 1) (by omega) trivial (fun k hj0 hj hi ih => ?_) (fun hi => ?_)
  · have ih : True → gW X (d + 4) k_118 4 [some (vR 200), some (vI (nI v)), some (vI (nI u)), some (vI (nI (bst (alk S v u) (k + 1)))), some (vI (nI (k + 1)))] [] p sg Q := ih
    have := bst_le (alk S v u) k
    exact b_118_4 hI hL hD (by omega) (by omega) (by omega) (by omega) (by omega) (by omega) (fun h1 => by omega) (fun h1 h2 => by rw [show ((nI (bst (alk S v u) k)) : Int32) = (nI (bst (alk S v u) (k + 1))) from by rw [bst_succ _ hj0]; congr 1; split <;> omega]; exact ih trivial) (fun h1 h2 => by rw [show ((nI k) : Int32) = (nI (bst (alk S v u) (k + 1))) from by rw [bst_succ _ hj0]; congr 1; split <;> omega]; exact ih trivial)
  · have := bst_le (alk S v u) (sn S 9)
    exact b_118_4 hI hL hD (by omega) (by omega) (by omega) (by omega) (by omega) (by omega) (fun _ => x1) (fun h1 h2 => by omega) (fun h1 h2 => by omega)

theorem s_118 {X : Nat × (Nat → Int32)} {d : Nat} {p : Nat → Nat} {sg : Mg} {B : Nat} {S : Nat → Int32} (hI : Inv B S) (hL : cwL 250 sg S) (hD : cwD 200 sg S) {v u : Nat} (hv : v < sn S 0) (hu : u < sn S 0) : gF X (d + 5) 118 [vR 200, vI (nI v), vI (nI u)] p sg (fun r => r = gRv p sg (nI (bst (alk S v u) (sn S 9)))) := by
  have b0 := hI.b0
  exact g_in (cd := k_118) (nL := 5) (rc := 11) rfl (g_A (a := 200) (kd := 0) (n := 10) rfl (by decide)) (g_c1 rfl) (b_118_0 hI hL hD (by omega) (by omega) hv hu (l_118_4 hI hL hD (by omega) (by omega) hv hu rfl))

theorem b_290_0 {X : Nat × (Nat → Int32)} {d : Nat} {p : Nat → Nat} {sg : Mg} {Q : am_R → Prop} {B : Nat} {S : Nat → Int32} (hI : Inv B S) (hS : sg 801 = S) {v : Nat} {u : Nat} {s : Nat} (u_v : v ≤ 5) (u_u : u ≤ 5) (u_s : s ≤ 16) (q1 : v < sn S 0) (q2 : u < sn S 0)
    (o1 : gW X (d + 1) k_290 4 [some (vR 800), some (vI (nI v)), some (vI (nI u)), some (vI (nI s)), some (vI 0), some (vI 0)] [] p sg Q) :
    gW X (d + 1) k_290 0 [some (vR 800), some (vI (nI v)), some (vI (nI u)), some (vI (nI s)), none, none] [] p sg Q := by
  have b0 := hI.b0; have b1 := hI.b1; have b2 := hI.b2; have b3 := hI.b3; have b4 := hI.b4; have b5 := hI.b5; have b6 := hI.b6; have b7 := hI.b7; have b8 := hI.b8; have b9 := hI.b9; have b14 := hI.b14
  refine g_pure 4 (i' := 4) (lv' := [some (vR 800), some (vI (nI v)), some (vI (nI u)), some (vI (nI s)), some (vI 0), some (vI 0)]) (st' := []) rfl ?_
  exact o1

theorem b_290_4 {X : Nat × (Nat → Int32)} {d : Nat} {p : Nat → Nat} {sg : Mg} {Q : am_R → Prop} {B : Nat} {S : Nat → Int32} (hI : Inv B S) (hS : sg 801 = S) {v : Nat} {u : Nat} {s : Nat} {c : Nat} {k : Nat} (u_v : v ≤ 5) (u_u : u ≤ 5) (u_s : s ≤ 16) (u_c : c ≤ 16) (u_k : k ≤ 16) (q1 : v < sn S 0) (q2 : u < sn S 0)
    (o1 : (sn S 9 ≤ k) → Q (gRv p sg (nI c)))
    (o2 : (¬ (sn S 9 ≤ k)) → (¬ sn S (17 + 16 * v + k) = sn S (17 + 16 * u + ((k + s) % (sn S 9)))) → gW X (d + 1) k_290 4 [some (vR 800), some (vI (nI v)), some (vI (nI u)), some (vI (nI s)), some (vI (nI c)), some (vI (nI (k + 1)))] [] p sg Q)
    (o3 : (¬ (sn S 9 ≤ k)) → (sn S (17 + 16 * v + k) = sn S (17 + 16 * u + ((k + s) % (sn S 9)))) → gW X (d + 1) k_290 4 [some (vR 800), some (vI (nI v)), some (vI (nI u)), some (vI (nI s)), some (vI (nI (c + 1))), some (vI (nI (k + 1)))] [] p sg Q) :
    gW X (d + 1) k_290 4 [some (vR 800), some (vI (nI v)), some (vI (nI u)), some (vI (nI s)), some (vI (nI c)), some (vI (nI k))] [] p sg Q := by
  have b0 := hI.b0; have b1 := hI.b1; have b2 := hI.b2; have b3 := hI.b3; have b4 := hI.b4; have b5 := hI.b5; have b6 := hI.b6; have b7 := hI.b7; have b8 := hI.b8; have b9 := hI.b9; have b14 := hI.b14
  refine g_pure 2 (i' := 6) (lv' := [some (vR 800), some (vI (nI v)), some (vI (nI u)), some (vI (nI s)), some (vI (nI c)), some (vI (nI k))]) (st' := [vR 800, vI (nI k)]) rfl ?_
  refine g_cV1 rfl (args := [vR 800]) (rest := [vI (nI k)]) rfl rfl rfl (s_199 (d := d) hS) ?_
  refine g_if2 (i' := 30) (P := sn S 9 ≤ k) rfl rfl (g_geN (show nI k = nI k from (rfl : nI k = nI k)) (show S 9 = nI (sn S 9) from (hI.c9)) (by omega) (by omega)) (fun h1 => ?_) (fun h1 => ?_)
  · refine g_pure 1 (i' := 31) (lv' := [some (vR 800), some (vI (nI v)), some (vI (nI u)), some (vI (nI s)), some (vI (nI c)), some (vI (nI k))]) (st' := [vI (nI c)]) rfl ?_
    refine g_iret rfl ?_
    exact o1 h1
  · refine g_pure 4 (i' := 12) (lv' := [some (vR 800), some (vI (nI v)), some (vI (nI u)), some (vI (nI s)), some (vI (nI c)), some (vI (nI k))]) (st' := [vI (nI k), vI (nI v), vR 800, vI (nI c)]) rfl ?_
    refine g_cV1 rfl (args := [vR 800, vI (nI v), vI (nI k)]) (rest := [vI (nI c)]) rfl rfl rfl (s_217 (d := d) hS (by omega) (by omega)) ?_
    refine g_pure 6 (i' := 19) (lv' := [some (vR 800), some (vI (nI v)), some (vI (nI u)), some (vI (nI s)), some (vI (nI c)), some (vI (nI k))]) (st' := [vR 800, vI (nI k + nI s), vI (nI u), vR 800, vI (S (17 + 16 * v + k)), vI (nI c)]) rfl ?_
    refine gW_eq (lv' := [some (vR 800), some (vI (nI v)), some (vI (nI u)), some (vI (nI s)), some (vI (nI c)), some (vI (nI k))]) (st' := [vR 800, vI (nI (k + s)), vI (nI u), vR 800, vI (S (17 + 16 * v + k)), vI (nI c)]) rfl (by rw [(show (nI k + nI s) = nI (k + s) from ((g_add (rfl : nI k = nI k) (rfl : nI s = nI s))).trans (congrArg nI (by omega)))]) rfl ?_
    refine g_cV1 rfl (args := [vR 800]) (rest := [vI (nI (k + s)), vI (nI u), vR 800, vI (S (17 + 16 * v + k)), vI (nI c)]) rfl rfl rfl (s_199 (d := d) hS) ?_
    refine g_rem rfl (g_nz (hI.c9) (by omega) (by omega)) ?_
    have t2 : ((k + s) % (sn S 9)) < sn S 9 := Nat.mod_lt _ (by omega)
    refine gW_eq (lv' := [some (vR 800), some (vI (nI v)), some (vI (nI u)), some (vI (nI s)), some (vI (nI c)), some (vI (nI k))]) (st' := [vI (nI ((k + s) % (sn S 9))), vI (nI u), vR 800, vI (S (17 + 16 * v + k)), vI (nI c)]) rfl (by rw [(show (nI (k + s) - nI (k + s) / S 9 * S 9) = nI ((k + s) % (sn S 9)) from (g_modN (rfl : nI (k + s) = nI (k + s)) (hI.c9) (by omega) (by omega) (by omega)))]) rfl ?_
    refine g_cV1 rfl (args := [vR 800, vI (nI u), vI (nI ((k + s) % (sn S 9)))]) (rest := [vI (S (17 + 16 * v + k)), vI (nI c)]) rfl rfl rfl (s_217 (d := d) hS (by omega) (by omega)) ?_
    have t3 := hI.tbb (v := v) (q := k) (by omega) (by omega)
    have t4 := hI.tbb (v := u) (q := ((k + s) % (sn S 9))) (by omega) (by omega)
    refine g_if2 (i' := 25) (P := ¬ sn S (17 + 16 * v + k) = sn S (17 + 16 * u + ((k + s) % (sn S 9)))) rfl rfl (g_neN (show S (17 + 16 * v + k) = nI (sn S (17 + 16 * v + k)) from (hI.tb (by omega) (by omega))) (show S (17 + 16 * u + ((k + s) % (sn S 9))) = nI (sn S (17 + 16 * u + ((k + s) % (sn S 9)))) from (hI.tb (by omega) (by omega))) (by omega) (by omega)) (fun h5 => ?_) (fun h5 => ?_)
    · refine g_pure 5 (i' := 4) (lv' := [some (vR 800), some (vI (nI v)), some (vI (nI u)), some (vI (nI s)), some (vI (nI c + 0)), some (vI (nI k + 1))]) (st' := []) rfl ?_
      refine gW_eq (lv' := [some (vR 800), some (vI (nI v)), some (vI (nI u)), some (vI (nI s)), some (vI (nI c)), some (vI (nI (k + 1)))]) (st' := []) (by rw [(show (nI c + 0) = nI c from ((g_add (rfl : nI c = nI c) (show (0 : Int32) = nI 0 from rfl))).trans (congrArg nI (by omega))), (show (nI k + 1) = nI (k + 1) from ((g_add (rfl : nI k = nI k) (show (1 : Int32) = nI 1 from rfl))).trans (congrArg nI (by omega)))]) rfl rfl ?_
      exact o2 h1 h5
    · have h5 := Classical.not_not.mp h5
      refine g_pure 6 (i' := 4) (lv' := [some (vR 800), some (vI (nI v)), some (vI (nI u)), some (vI (nI s)), some (vI (nI c + 1)), some (vI (nI k + 1))]) (st' := []) rfl ?_
      refine gW_eq (lv' := [some (vR 800), some (vI (nI v)), some (vI (nI u)), some (vI (nI s)), some (vI (nI (c + 1))), some (vI (nI (k + 1)))]) (st' := []) (by rw [(show (nI c + 1) = nI (c + 1) from ((g_add (rfl : nI c = nI c) (show (1 : Int32) = nI 1 from rfl))).trans (congrArg nI (by omega))), (show (nI k + 1) = nI (k + 1) from ((g_add (rfl : nI k = nI k) (show (1 : Int32) = nI 1 from rfl))).trans (congrArg nI (by omega)))]) rfl rfl ?_
      exact o3 h1 h5

theorem l_290_4 {X : Nat × (Nat → Int32)} {d : Nat} {p : Nat → Nat} {sg : Mg} {Q : am_R → Prop} {B : Nat} {S : Nat → Int32} (hI : Inv B S) (hS : sg 801 = S) {v : Nat} {u : Nat} {s : Nat} (u_v : v ≤ 5) (u_u : u ≤ 5) (u_s : s ≤ 16) (q1 : v < sn S 0) (q2 : u < sn S 0) 
    (x1 : Q (gRv p sg (nI (cnt (alkP S v u s) (sn S 9))))) :
    gW X (d + 1) k_290 4 [some (vR 800), some (vI (nI v)), some (vI (nI u)), some (vI (nI s)), some (vI (nI (cnt (alkP S v u s) 0))), some (vI (nI 0))] [] p sg Q := by
  have b0 := hI.b0; have b1 := hI.b1; have b2 := hI.b2; have b3 := hI.b3; have b4 := hI.b4; have b5 := hI.b5; have b6 := hI.b6; have b7 := hI.b7; have b8 := hI.b8; have b9 := hI.b9; have b14 := hI.b14
  refine g_upI (P := fun k => gW X (d + 1) k_290 4 [some (vR 800), some (vI (nI v)), some (vI (nI u)), some (vI (nI s)), some (vI (nI (cnt (alkP S v u s) k))), some (vI (nI k))] [] p sg Q) (I := fun k => True) (n := sn S 9) (a := 0) (by omega) trivial (fun k hj0 hj hi ih => ?_) (fun hi => ?_)
  · have ih : True → gW X (d + 1) k_290 4 [some (vR 800), some (vI (nI v)), some (vI (nI u)), some (vI (nI s)), some (vI (nI (cnt (alkP S v u s) (k + 1)))), some (vI (nI (k + 1)))] [] p sg Q := ih
    have := cnt_le (alkP S v u s) k
    exact b_290_4 hI hS (by omega) (by omega) (by omega) (by omega) (by omega) (by omega) (by omega) (fun h1 => by omega) (fun h1 h2 => by rw [show ((nI (cnt (alkP S v u s) k)) : Int32) = (nI (cnt (alkP S v u s) (k + 1))) from by simp [cnt, alkP, Nat.mod_eq_of_lt hj, *]]; exact ih trivial) (fun h1 h2 => by rw [show ((nI ((cnt (alkP S v u s) k) + 1)) : Int32) = (nI (cnt (alkP S v u s) (k + 1))) from by simp [cnt, alkP, Nat.mod_eq_of_lt hj, *]]; exact ih trivial)
  · have := cnt_le (alkP S v u s) (sn S 9)
    exact b_290_4 hI hS (by omega) (by omega) (by omega) (by omega) (by omega) (by omega) (by omega) (fun _ => x1) (fun h1 h2 => by omega) (fun h1 h2 => by omega)

theorem s_290 {X : Nat × (Nat → Int32)} {d : Nat} {p : Nat → Nat} {sg : Mg} {B : Nat} {S : Nat → Int32} (hI : Inv B S) (hS : sg 801 = S) {v u s : Nat} (hv : v < sn S 0) (hu : u < sn S 0) (hs : s ≤ 16) : gF X (d + 2) 290 [vR 800, vI (nI v), vI (nI u), vI (nI s)] p sg (fun r => r = gRv p sg (nI (alk S v u s))) := by
  have b0 := hI.b0
  exact g_in (cd := k_290) (nL := 6) (rc := 13) rfl (g_A (a := 800) (kd := 0) (n := 12) rfl (by decide)) (g_c1 rfl) (b_290_0 hI hS (by omega) (by omega) hs hv hu (l_290_4 hI hS (by omega) (by omega) hs hv hu rfl))

theorem b_289_32 {X : Nat × (Nat → Int32)} {d : Nat} {p : Nat → Nat} {sg : Mg} {Q : am_R → Prop} {B : Nat} {S : Nat → Int32} (hI : Inv B S) (hS : sg 801 = S) {v : Nat} {u : Nat} {z : Option AV} {b : Nat} {k : Nat} (u_v : v ≤ 5) (u_u : u ≤ 5) (u_b : b ≤ 16) (u_k : k ≤ 16) (q1 : v < sn S 0) (q2 : u < sn S 0)
    (o1 : (sn S 9 ≤ k) → Q (gRv p sg (nI b)))
    (o2 : (¬ (sn S 9 ≤ k)) → (alk S v u k ≤ alk S v u b) → gW X (d + 2) k_289 32 [some (vR 800), some (vI (nI v)), some (vI (nI u)), z, some (vI (nI b)), some (vI (nI (k + 1)))] [] p sg Q)
    (o3 : (¬ (sn S 9 ≤ k)) → (¬ (alk S v u k ≤ alk S v u b)) → gW X (d + 2) k_289 32 [some (vR 800), some (vI (nI v)), some (vI (nI u)), z, some (vI (nI k)), some (vI (nI (k + 1)))] [] p sg Q) :
    gW X (d + 2) k_289 32 [some (vR 800), some (vI (nI v)), some (vI (nI u)), z, some (vI (nI b)), some (vI (nI k))] [] p sg Q := by
  have b0 := hI.b0; have b1 := hI.b1; have b2 := hI.b2; have b3 := hI.b3; have b4 := hI.b4; have b5 := hI.b5; have b6 := hI.b6; have b7 := hI.b7; have b8 := hI.b8; have b9 := hI.b9; have b14 := hI.b14
  refine g_pure 2 (i' := 34) (lv' := [some (vR 800), some (vI (nI v)), some (vI (nI u)), z, some (vI (nI b)), some (vI (nI k))]) (st' := [vR 800, vI (nI k)]) rfl ?_
  refine g_cV1 rfl (args := [vR 800]) (rest := [vI (nI k)]) rfl rfl rfl (s_199 (d := d + 1) hS) ?_
  refine g_if2 (i' := 53) (P := sn S 9 ≤ k) rfl rfl (g_geN (show nI k = nI k from (rfl : nI k = nI k)) (show S 9 = nI (sn S 9) from (hI.c9)) (by omega) (by omega)) (fun h1 => ?_) (fun h1 => ?_)
  · refine g_pure 1 (i' := 54) (lv' := [some (vR 800), some (vI (nI v)), some (vI (nI u)), z, some (vI (nI b)), some (vI (nI k))]) (st' := [vI (nI b)]) rfl ?_
    refine g_iret rfl ?_
    exact o1 h1
  · refine g_pure 4 (i' := 40) (lv' := [some (vR 800), some (vI (nI v)), some (vI (nI u)), z, some (vI (nI b)), some (vI (nI k))]) (st' := [vI (nI k), vI (nI u), vI (nI v), vR 800]) rfl ?_
    refine g_cV1 rfl (args := [vR 800, vI (nI v), vI (nI u), vI (nI k)]) (rest := []) rfl rfl rfl (s_290 (d := d) hI hS (by omega) (by omega) (by omega)) ?_
    have t2 := alk_le hI v u k
    refine g_pure 4 (i' := 45) (lv' := [some (vR 800), some (vI (nI v)), some (vI (nI u)), z, some (vI (nI b)), some (vI (nI k))]) (st' := [vI (nI b), vI (nI u), vI (nI v), vR 800, vI (nI (alk S v u k))]) rfl ?_
    refine g_cV1 rfl (args := [vR 800, vI (nI v), vI (nI u), vI (nI b)]) (rest := [vI (nI (alk S v u k))]) rfl rfl rfl (s_290 (d := d) hI hS (by omega) (by omega) (by omega)) ?_
    have t3 := alk_le hI v u b
    refine g_if2 (i' := 49) (P := alk S v u k ≤ alk S v u b) rfl rfl (g_leN (show nI (alk S v u k) = nI (alk S v u k) from (rfl : nI (alk S v u k) = nI (alk S v u k))) (show nI (alk S v u b) = nI (alk S v u b) from (rfl : nI (alk S v u b) = nI (alk S v u b))) (by omega) (by omega)) (fun h4 => ?_) (fun h4 => ?_)
    · refine g_pure 4 (i' := 32) (lv' := [some (vR 800), some (vI (nI v)), some (vI (nI u)), z, some (vI (nI b)), some (vI (nI k + 1))]) (st' := []) rfl ?_
      refine gW_eq (lv' := [some (vR 800), some (vI (nI v)), some (vI (nI u)), z, some (vI (nI b)), some (vI (nI (k + 1)))]) (st' := []) (by rw [(show (nI k + 1) = nI (k + 1) from ((g_add (rfl : nI k = nI k) (show (1 : Int32) = nI 1 from rfl))).trans (congrArg nI (by omega)))]) rfl rfl ?_
      exact o2 h1 h4
    · refine g_pure 5 (i' := 32) (lv' := [some (vR 800), some (vI (nI v)), some (vI (nI u)), z, some (vI (nI k)), some (vI (nI k + 1))]) (st' := []) rfl ?_
      refine gW_eq (lv' := [some (vR 800), some (vI (nI v)), some (vI (nI u)), z, some (vI (nI k)), some (vI (nI (k + 1)))]) (st' := []) (by rw [(show (nI k + 1) = nI (k + 1) from ((g_add (rfl : nI k = nI k) (show (1 : Int32) = nI 1 from rfl))).trans (congrArg nI (by omega)))]) rfl rfl ?_
      exact o3 h1 h4

theorem l_289_32 {X : Nat × (Nat → Int32)} {d : Nat} {p : Nat → Nat} {sg : Mg} {Q : am_R → Prop} {B : Nat} {S : Nat → Int32} (hI : Inv B S) (hS : sg 801 = S) {v : Nat} {u : Nat} {z : Option AV} (u_v : v ≤ 5) (u_u : u ≤ 5) (q1 : v < sn S 0) (q2 : u < sn S 0) 
    (x1 : Q (gRv p sg (nI (bst (alk S v u) (sn S 9))))) :
    gW X (d + 2) k_289 32 [some (vR 800), some (vI (nI v)), some (vI (nI u)), z, some (vI (nI (bst (alk S v u) 1))), some (vI (nI 1))] [] p sg Q := by
  have b0 := hI.b0; have b1 := hI.b1; have b2 := hI.b2; have b3 := hI.b3; have b4 := hI.b4; have b5 := hI.b5; have b6 := hI.b6; have b7 := hI.b7; have b8 := hI.b8; have b9 := hI.b9; have b14 := hI.b14
  refine g_upI (P := fun k => gW X (d + 2) k_289 32 [some (vR 800), some (vI (nI v)), some (vI (nI u)), z, some (vI (nI (bst (alk S v u) k))), some (vI (nI k))] [] p sg Q) (I := fun k => True) (n := sn S 9) (a := 1) (by omega) trivial (fun k hj0 hj hi ih => ?_) (fun hi => ?_)
  · have ih : True → gW X (d + 2) k_289 32 [some (vR 800), some (vI (nI v)), some (vI (nI u)), z, some (vI (nI (bst (alk S v u) (k + 1)))), some (vI (nI (k + 1)))] [] p sg Q := ih
    have := bst_le (alk S v u) k
    exact b_289_32 hI hS (by omega) (by omega) (by omega) (by omega) (by omega) (by omega) (fun h1 => by omega) (fun h1 h2 => by rw [show ((nI (bst (alk S v u) k)) : Int32) = (nI (bst (alk S v u) (k + 1))) from by rw [bst_succ _ hj0]; congr 1; split <;> omega]; exact ih trivial) (fun h1 h2 => by rw [show ((nI k) : Int32) = (nI (bst (alk S v u) (k + 1))) from by rw [bst_succ _ hj0]; congr 1; split <;> omega]; exact ih trivial)
  · have := bst_le (alk S v u) (sn S 9)
    exact b_289_32 hI hS (by omega) (by omega) (by omega) (by omega) (by omega) (by omega) (fun _ => x1) (fun h1 h2 => by omega) (fun h1 h2 => by omega)

def alikeR (S : Nat → Int32) (x : Int32) (y : Int32) (P : Prop) [Decidable P] : Nat × Int32 := if okx x (sn S 0) then (if okx y (sn S 0) then ((0, nI (if P then bst (alk S x.toNatClampNeg y.toNatClampNeg) (sn S 9) else alk S x.toNatClampNeg y.toNatClampNeg 0))) else (1, 0)) else (1, 0)

theorem b_167_0 {X : Nat × (Nat → Int32)} {d : Nat} {p : Nat → Nat} {sg : Mg} {Q : am_R → Prop} {B : Nat} {S : Nat → Int32} (hI : Inv B S) (hL : cwL 250 sg S) (hD : cwD 200 sg S) {x : Int32} {y : Int32} {P : Prop} [Decidable P]
    (o1 : ∀ n2 : Nat, x = nI n2 → n2 < sn S 0 → ∀ n4 : Nat, y = nI n4 → n4 < sn S 0 → (¬ P) → Q (gRv p sg (nI (alk S n2 n4 0))))
    (o2 : ∀ n2 : Nat, x = nI n2 → n2 < sn S 0 → ∀ n4 : Nat, y = nI n4 → n4 < sn S 0 → (P) → Q (gRv p sg (nI (bst (alk S n2 n4) (sn S 9)))))
    (o3 : ∀ n2 : Nat, x = nI n2 → n2 < sn S 0 → (¬ okx y (sn S 0)) → Q (gRx p sg 2))
    (o4 : (¬ okx x (sn S 0)) → Q (gRx p sg 2)) :
    gW X (d + 6) k_167 0 [some (vR 0), some (vI x), some (vI y), some (vI (if P then 1 else 0))] [] p sg Q := by
  have b0 := hI.b0; have b1 := hI.b1; have b2 := hI.b2; have b3 := hI.b3; have b4 := hI.b4; have b5 := hI.b5; have b6 := hI.b6; have b7 := hI.b7; have b8 := hI.b8; have b9 := hI.b9; have b14 := hI.b14
  refine g_pure 3 (i' := 3) (lv' := [some (vR 0), some (vI x), some (vI y), some (vI (if P then 1 else 0))]) (st' := [vI x, vI 0, vR 0]) rfl ?_
  by_cases h1 : okx x (sn S 0)
  · obtain ⟨n2, ln2, en2⟩ := okx_of h1
    subst en2
    refine gW_eq (st' := [vI (nI n2), vI (nI 0), vR 0]) rfl (by rw [(show (0 : Int32) = nI 0 from rfl)]) rfl ?_
    refine g_cV0 rfl (args := [vR 0, vI (nI 0), vI (nI n2)]) (rest := []) rfl rfl rfl (s_140o (d := d + 4) hI hL hD (by omega) ((okx_nI (by omega)).mpr (by omega))) ?_
    refine g_pure 3 (i' := 7) (lv' := [some (vR 0), some (vI (nI n2)), some (vI y), some (vI (if P then 1 else 0))]) (st' := [vI y, vI 0, vR 0]) rfl ?_
    by_cases h3 : okx y (sn S 0)
    · obtain ⟨n4, ln4, en4⟩ := okx_of h3
      subst en4
      refine gW_eq (st' := [vI (nI n4), vI (nI 0), vR 0]) rfl (by rw [(show (0 : Int32) = nI 0 from rfl)]) rfl ?_
      refine g_cV0 rfl (args := [vR 0, vI (nI 0), vI (nI n4)]) (rest := []) rfl rfl rfl (s_140o (d := d + 4) hI hL hD (by omega) ((okx_nI (by omega)).mpr (by omega))) ?_
      refine g_pure 1 (i' := 9) (lv' := [some (vR 0), some (vI (nI n2)), some (vI (nI n4)), some (vI (if P then 1 else 0))]) (st' := [vI (if P then 1 else 0)]) rfl ?_
      refine g_if1 (i' := 16) (P := ¬ P) rfl rfl g_eqB (fun h5 => ?_) (fun h5 => ?_)
      · refine g_pure 5 (i' := 21) (lv' := [some (vR 0), some (vI (nI n2)), some (vI (nI n4)), some (vI (if P then 1 else 0))]) (st' := [vI 0, vI (nI n4), vI (nI n2), vR 200]) rfl ?_
        refine gW_eq (st' := [vI (nI 0), vI (nI n4), vI (nI n2), vR 200]) rfl (by rw [(show (0 : Int32) = nI 0 from rfl)]) rfl ?_
        refine g_cV1 rfl (args := [vR 200, vI (nI n2), vI (nI n4), vI (nI 0)]) (rest := []) rfl rfl rfl (s_119 (d := d + 2) hI hL hD (by omega) (by omega) (by omega)) ?_
        have t6 := alk_le hI n2 n4 0
        refine g_iret rfl ?_
        exact o1 n2 rfl ln2 n4 rfl ln4 h5
      · have h5 := Classical.not_not.mp h5
        refine g_pure 4 (i' := 14) (lv' := [some (vR 0), some (vI (nI n2)), some (vI (nI n4)), some (vI (if P then 1 else 0))]) (st' := [vI (nI n4), vI (nI n2), vR 200]) rfl ?_
        refine g_cV1 rfl (args := [vR 200, vI (nI n2), vI (nI n4)]) (rest := []) rfl rfl rfl (s_118 (d := d + 1) hI hL hD (by omega) (by omega)) ?_
        refine g_pure 1 (i' := 22) (lv' := [some (vR 0), some (vI (nI n2)), some (vI (nI n4)), some (vI (if P then 1 else 0))]) (st' := [vI (nI (bst (alk S n2 n4) (sn S 9)))]) rfl ?_
        refine g_iret rfl ?_
        exact o2 n2 rfl ln2 n4 rfl ln4 h5
    · refine gW_eq (st' := [vI y, vI (nI 0), vR 0]) rfl (by rw [(show (0 : Int32) = nI 0 from rfl)]) rfl ?_
      refine g_cVx rfl (args := [vR 0, vI (nI 0), vI y]) (rest := []) rfl rfl rfl (s_140x (d := d + 4) hI hL hD (by omega) (by assumption)) ?_
      exact o3 n2 rfl ln2 h3
  · refine gW_eq (st' := [vI x, vI (nI 0), vR 0]) rfl (by rw [(show (0 : Int32) = nI 0 from rfl)]) rfl ?_
    refine g_cVx rfl (args := [vR 0, vI (nI 0), vI x]) (rest := []) rfl rfl rfl (s_140x (d := d + 4) hI hL hD (by omega) (by assumption)) ?_
    exact o4 h1

theorem c_alike {X : Nat × (Nat → Int32)} {d : Nat} {p : Nat → Nat} {sg : Mg} {B : Nat} {S : Nat → Int32} (hI : Inv B S) (hL : cwL 250 sg S) (hD : cwD 200 sg S) {x : Int32} {y : Int32} {P : Prop} [Decidable P] : gF X (d + 7) 167 [vR 0, vI x, vI y, vI (if P then 1 else 0)] p sg (oC p sg (fun _ => 2) (alikeR S x y P)) := by
  have b0 := hI.b0; have b1 := hI.b1; have b2 := hI.b2; have b3 := hI.b3; have b4 := hI.b4; have b5 := hI.b5; have b9 := hI.b9; have b14 := hI.b14
  refine g_in (cd := k_167) (nL := 4) (rc := 12) rfl (g_A (a := 0) (kd := 0) (n := 11) rfl (by decide)) (g_c1 rfl) (b_167_0 hI hL hD (fun n1 e1 l1 n2 e2 l2 h3 => oC_0 ?_) (fun n1 e1 l1 n2 e2 l2 h3 => oC_0 ?_) (fun n1 e1 l1 h2 => oC_x (c := 0) ?_ rfl) (fun h1 => oC_x (c := 0) ?_ rfl))
  · subst e1 e2
    unfold alikeR
    rw [if_pos ((okx_nI (by omega)).mpr (by omega)), if_pos ((okx_nI (by omega)).mpr (by omega))]
    try simp (disch := omega) only [nI_clamp]
    try exact congrArg (fun j => ((0, S j) : Nat × Int32)) (by omega)
    try (split <;> first | rfl | contradiction)
    try rfl
  · subst e1 e2
    unfold alikeR
    rw [if_pos ((okx_nI (by omega)).mpr (by omega)), if_pos ((okx_nI (by omega)).mpr (by omega))]
    try simp (disch := omega) only [nI_clamp]
    try exact congrArg (fun j => ((0, S j) : Nat × Int32)) (by omega)
    try (split <;> first | rfl | contradiction)
    try rfl
  · subst e1
    unfold alikeR
    rw [if_pos ((okx_nI (by omega)).mpr (by omega)), if_neg h2]
  · skip
    unfold alikeR
    rw [if_neg h1]

theorem b_289_0 {X : Nat × (Nat → Int32)} {d : Nat} {p : Nat → Nat} {sg : Mg} {Q : am_R → Prop} {B : Nat} {S : Nat → Int32} (hI : Inv B S) (hS : sg 801 = S) {x : Int32} {y : Int32} {P : Prop} [Decidable P]
    (o1 : ∀ s1 : Mg, s1 = mu sg 800 0 0 → (¬ okx x (sn S 0)) → ∀ s3 : Mg, s3 = mu s1 800 0 (nI 1) → Q (gRv p s3 0))
    (o2 : ∀ s1 : Mg, s1 = mu sg 800 0 0 → ∀ n5 : Nat, x = nI n5 → n5 < sn S 0 → ∀ n7 : Nat, y = nI n7 → n7 < sn S 0 → (P) → gW X (d + 3) k_289 32 [some (vR 800), some (vI (nI n5)), some (vI (nI n7)), some (vI (if P then 1 else 0)), some (vI 0), some (vI 1)] [] p s1 Q)
    (o3 : ∀ s1 : Mg, s1 = mu sg 800 0 0 → ∀ n5 : Nat, x = nI n5 → n5 < sn S 0 → ∀ n7 : Nat, y = nI n7 → n7 < sn S 0 → (¬ P) → Q (gRv p s1 (nI (alk S n5 n7 0))))
    (o4 : ∀ s1 : Mg, s1 = mu sg 800 0 0 → ∀ n5 : Nat, x = nI n5 → n5 < sn S 0 → (¬ okx y (sn S 0)) → ∀ s11 : Mg, s11 = mu s1 800 0 (nI 1) → Q (gRv p s11 0)) :
    gW X (d + 3) k_289 0 [some (vR 800), some (vI x), some (vI y), some (vI (if P then 1 else 0)), none, none] [] p sg Q := by
  have b0 := hI.b0; have b1 := hI.b1; have b2 := hI.b2; have b3 := hI.b3; have b4 := hI.b4; have b5 := hI.b5; have b6 := hI.b6; have b7 := hI.b7; have b8 := hI.b8; have b9 := hI.b9; have b14 := hI.b14
  refine g_pure 2 (i' := 2) (lv' := [some (vR 800), some (vI x), some (vI y), some (vI (if P then 1 else 0)), none, none]) (st' := [vI 0, vR 800]) rfl ?_
  refine g_putI rfl (g_A (a := 800) (kd := 0) (n := 12) rfl (by decide)) ?_
  refine g_setv (fun s1 es1 => ?_)
  have hSs1 : s1 801 = S := by rw [es1, mu_ne (by decide), hS]
  refine g_pure 3 (i' := 6) (lv' := [some (vR 800), some (vI x), some (vI y), some (vI (if P then 1 else 0)), none, none]) (st' := [vI x, vR 800, vR 800]) rfl ?_
  refine g_cV1 rfl (args := [vR 800, vI x]) (rest := [vR 800]) rfl rfl rfl (s_230 (d := d + 1) hI hSs1) ?_
  refine g_if1 (i' := 12) (P := ¬ okx x (sn S 0)) rfl rfl g_neB (fun h2 => ?_) (fun h2 => ?_)
  · refine g_pure 3 (i' := 16) (lv' := [some (vR 800), some (vI x), some (vI y), some (vI (if P then 1 else 0)), none, none]) (st' := [vI 1, vI 1, vR 800]) rfl ?_
    refine gW_eq (st' := [vI (nI 1), vI 1, vR 800]) rfl (by rw [(show (1 : Int32) = nI 1 from rfl)]) rfl ?_
    refine g_cV1 rfl (args := [vR 800, vI 1, vI (nI 1)]) (rest := []) rfl rfl rfl (s_227t (d := d + 2) (by omega)) ?_
    refine g_setv (fun s3 es3 => ?_)
    have hSs3 : s3 801 = S := by rw [es3, mu_ne (by decide), hSs1]
    refine g_if1 (i' := 20) (P := 1 = 0) rfl rfl (g_eqN (show 1 = nI 1 from (show (1 : Int32) = nI 1 from rfl)) (show 0 = nI 0 from (show (0 : Int32) = nI 0 from rfl)) (by omega) (by omega)) (fun h4 => absurd h4 (by omega)) (fun _ => ?_)
    refine g_pure 1 (i' := 19) (lv' := [some (vR 800), some (vI x), some (vI y), some (vI (if P then 1 else 0)), none, none]) (st' := [vI 0]) rfl ?_
    refine g_iret rfl ?_
    exact o1 s1 es1 h2 s3 es3
  · have h2 := Classical.not_not.mp h2
    obtain ⟨n5, ln5, en5⟩ := okx_of h2
    subst en5
    refine g_pure 2 (i' := 10) (lv' := [some (vR 800), some (vI (nI n5)), some (vI y), some (vI (if P then 1 else 0)), none, none]) (st' := [vI y, vR 800, vR 800]) rfl ?_
    refine g_cV1 rfl (args := [vR 800, vI y]) (rest := [vR 800]) rfl rfl rfl (s_230 (d := d + 1) hI hSs1) ?_
    refine g_if1 (i' := 14) (P := okx y (sn S 0)) rfl rfl (g_eqB.trans Classical.not_not) (fun h6 => ?_) (fun h6 => ?_)
    · obtain ⟨n7, ln7, en7⟩ := okx_of h6
      subst en7
      refine g_pure 2 (i' := 16) (lv' := [some (vR 800), some (vI (nI n5)), some (vI (nI n7)), some (vI (if P then 1 else 0)), none, none]) (st' := [vI 1, vI 0, vR 800]) rfl ?_
      refine gW_eq (st' := [vI (nI 1), vI 0, vR 800]) rfl (by rw [(show (1 : Int32) = nI 1 from rfl)]) rfl ?_
      refine g_cV1 rfl (args := [vR 800, vI 0, vI (nI 1)]) (rest := []) rfl rfl rfl (s_227f (d := d + 2) (by omega)) ?_
      refine g_if1 (i' := 20) (P := 0 = 0) rfl rfl (g_eqN (show 0 = nI 0 from (show (0 : Int32) = nI 0 from rfl)) (show 0 = nI 0 from (show (0 : Int32) = nI 0 from rfl)) (by omega) (by omega)) (fun _ => ?_) (fun h8 => absurd (by omega) h8)
      refine g_pure 1 (i' := 21) (lv' := [some (vR 800), some (vI (nI n5)), some (vI (nI n7)), some (vI (if P then 1 else 0)), none, none]) (st' := [vI (if P then 1 else 0)]) rfl ?_
      refine g_if1 (i' := 28) (P := P) rfl rfl g_neB (fun h9 => ?_) (fun h9 => ?_)
      · refine g_pure 4 (i' := 32) (lv' := [some (vR 800), some (vI (nI n5)), some (vI (nI n7)), some (vI (if P then 1 else 0)), some (vI 0), some (vI 1)]) (st' := []) rfl ?_
        exact o2 s1 es1 n5 rfl ln5 n7 rfl ln7 h9
      · refine g_pure 4 (i' := 26) (lv' := [some (vR 800), some (vI (nI n5)), some (vI (nI n7)), some (vI (if P then 1 else 0)), none, none]) (st' := [vI 0, vI (nI n7), vI (nI n5), vR 800]) rfl ?_
        refine gW_eq (st' := [vI (nI 0), vI (nI n7), vI (nI n5), vR 800]) rfl (by rw [(show (0 : Int32) = nI 0 from rfl)]) rfl ?_
        refine g_cV1 rfl (args := [vR 800, vI (nI n5), vI (nI n7), vI (nI 0)]) (rest := []) rfl rfl rfl (s_290 (d := d + 1) hI hSs1 (by omega) (by omega) (by omega)) ?_
        have t10 := alk_le hI n5 n7 0
        refine g_iret rfl ?_
        exact o3 s1 es1 n5 rfl ln5 n7 rfl ln7 h9
    · refine g_pure 3 (i' := 16) (lv' := [some (vR 800), some (vI (nI n5)), some (vI y), some (vI (if P then 1 else 0)), none, none]) (st' := [vI 1, vI 1, vR 800]) rfl ?_
      refine gW_eq (st' := [vI (nI 1), vI 1, vR 800]) rfl (by rw [(show (1 : Int32) = nI 1 from rfl)]) rfl ?_
      refine g_cV1 rfl (args := [vR 800, vI 1, vI (nI 1)]) (rest := []) rfl rfl rfl (s_227t (d := d + 2) (by omega)) ?_
      refine g_setv (fun s11 es11 => ?_)
      have hSs11 : s11 801 = S := by rw [es11, mu_ne (by decide), hSs1]
      refine g_if1 (i' := 20) (P := 1 = 0) rfl rfl (g_eqN (show 1 = nI 1 from (show (1 : Int32) = nI 1 from rfl)) (show 0 = nI 0 from (show (0 : Int32) = nI 0 from rfl)) (by omega) (by omega)) (fun h12 => absurd h12 (by omega)) (fun _ => ?_)
      refine g_pure 1 (i' := 19) (lv' := [some (vR 800), some (vI (nI n5)), some (vI y), some (vI (if P then 1 else 0)), none, none]) (st' := [vI 0]) rfl ?_
      refine g_iret rfl ?_
      exact o4 s1 es1 n5 rfl ln5 h6 s11 es11

theorem m_alike {X : Nat × (Nat → Int32)} {d : Nat} {p : Nat → Nat} {sg : Mg} {B : Nat} {S : Nat → Int32} (hI : Inv B S) (hS : sg 801 = S) {x : Int32} {y : Int32} {P : Prop} [Decidable P] : gF X (d + 4) 289 [vR 800, vI x, vI y, vI (if P then 1 else 0)] p sg (oM p sg (alikeR S x y P)) := by
  have b0 := hI.b0; have b1 := hI.b1; have b2 := hI.b2; have b3 := hI.b3; have b4 := hI.b4; have b5 := hI.b5; have b9 := hI.b9; have b14 := hI.b14
  refine g_in (cd := k_289) (nL := 6) (rc := 13) rfl (g_A (a := 800) (kd := 0) (n := 12) rfl (by decide)) (g_c1 rfl) (b_289_0 hI hS (fun s1 f1 h2 s3 f3 => oM_x (c := 0) f1 f3 ?_) (fun s1 f1 n2 e2 l2 n3 e3 l3 h4 => l_289_32 hI (show s1 801 = S by rw [f1, mu_ne (by decide)]; exact hS) (by omega) (by omega) (by omega) (by omega) (oM_0 f1 ?_)) (fun s1 f1 n2 e2 l2 n3 e3 l3 h4 => oM_0 f1 ?_) (fun s1 f1 n2 e2 l2 h3 s4 f4 => oM_x (c := 0) f1 f4 ?_))
  · skip
    unfold alikeR
    rw [if_neg h2]
  · subst e2 e3
    unfold alikeR
    rw [if_pos ((okx_nI (by omega)).mpr (by omega)), if_pos ((okx_nI (by omega)).mpr (by omega))]
    try simp (disch := omega) only [nI_clamp]
    try exact congrArg (fun j => ((0, S j) : Nat × Int32)) (by omega)
    try (split <;> first | rfl | contradiction)
    try rfl
  · subst e2 e3
    unfold alikeR
    rw [if_pos ((okx_nI (by omega)).mpr (by omega)), if_pos ((okx_nI (by omega)).mpr (by omega))]
    try simp (disch := omega) only [nI_clamp]
    try exact congrArg (fun j => ((0, S j) : Nat × Int32)) (by omega)
    try (split <;> first | rfl | contradiction)
    try rfl
  · subst e2
    unfold alikeR
    rw [if_pos ((okx_nI (by omega)).mpr (by omega)), if_neg h3]
