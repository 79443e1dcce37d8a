/-! KNEW, EARLY, LOG, PERSON (made by wip/whole/gen38.py) -/
/-- what a row of the log takes away -/
def lgm (S : Nat → Int32) (x t : Int32) (k : Nat) : Int32 := if S (309 + 4 * k + 1) = x ∧ t < S (309 + 4 * k) then ((1 : Int32) <<< (S (309 + 4 * k + 2) &&& 31)) ^^^ (-1) else -1
def andf (f : Nat → Int32) : Nat → Int32
  | 0 => -1
  | n + 1 => andf f n &&& f n
theorem i32_and_neg (x : Int32) : x &&& -1 = x := by
  apply bvI_inj
  rw [Int32.toBitVec_and]
  show x.toBitVec &&& (BitVec.allOnes 32) = _
  exact BitVec.and_allOnes
theorem i32_and_assoc (a b c : Int32) : a &&& b &&& c = a &&& (b &&& c) := by
  apply bvI_inj
  simp only [Int32.toBitVec_and, BitVec.and_assoc]
theorem i32_and_comm (a b : Int32) : a &&& b = b &&& a := by
  apply bvI_inj
  simp only [Int32.toBitVec_and, BitVec.and_comm]
theorem andf_ext {f g : Nat → Int32} : ∀ {n : Nat}, (∀ k, k < n → f k = g k) → andf f n = andf g n
  | 0, _ => rfl
  | n + 1, h => by
    simp only [andf]
    rw [andf_ext (fun k hk => h k (by omega)), h n (by omega)]
theorem andf_left (f : Nat → Int32) : ∀ n, andf f (n + 1) = f 0 &&& andf (fun k => f (k + 1)) n
  | 0 => by
    show -1 &&& f 0 = f 0 &&& -1
    exact i32_and_comm _ _
  | n + 1 => by
    show andf f (n + 1) &&& f (n + 1) = f 0 &&& (andf (fun k => f (k + 1)) n &&& f (n + 1))
    rw [andf_left f n, i32_and_assoc]
theorem andf_rev (f : Nat → Int32) : ∀ n, andf (fun k => f (n - 1 - k)) n = andf f n
  | 0 => rfl
  | n + 1 => by
    rw [andf_left]
    show f (n - 0) &&& andf (fun k => f (n + 1 - 1 - (k + 1))) n = andf f n &&& f n
    rw [andf_ext (g := fun k => f (n - 1 - k)) (fun k hk => by congr 1; omega), andf_rev f n, i32_and_comm]
    rfl

theorem b_60_0 {X : Nat × (Nat → Int32)} {d : Nat} {p : Nat → Nat} {sg : Mg} {Q : am_R → Prop} {B : Nat} {S : Nat → Int32} (hI : Inv B S) (hL : cwL 250 sg S) (hD : cwD 200 sg S) {k : Nat} {t : Int32} (u_k : k ≤ 7)
    (o1 : gW X (d) k_60 7 [some (vR 250), some (vI (nI k)), some (vI t), some (vI (S (113 + 6 * k + 5))), some (vI 0)] [] p sg Q) :
    gW X (d) k_60 0 [some (vR 250), some (vI (nI k)), some (vI t), none, none] [] p sg Q := by
  have b0 := hI.b0; have b1 := hI.b1; have b2 := hI.b2; have b3 := hI.b3; have b4 := hI.b4; have b5 := hI.b5; have b6 := hI.b6; have b7 := hI.b7; have b8 := hI.b8; have b9 := hI.b9; have b14 := hI.b14
  refine g_pure 3 (i' := 3) (lv' := [some (vR 250), some (vI (nI k)), some (vI t), none, none]) (st' := [vI (nI k), vR 257]) rfl ?_
  refine g_ald rfl (g_A (a := 257) (kd := 1) (n := 8) rfl (by decide)) (by decide) (show nI k = nI k from (rfl : nI k = nI k)) (by omega) (show _ = S (113 + 6 * k + 5) from (hL.per 5 (by decide) (by omega))) ?_
  refine g_pure 3 (i' := 7) (lv' := [some (vR 250), some (vI (nI k)), some (vI t), some (vI (S (113 + 6 * k + 5))), some (vI 0)]) (st' := []) rfl ?_
  exact o1

theorem b_60_7 {X : Nat × (Nat → Int32)} {d : Nat} {p : Nat → Nat} {sg : Mg} {Q : am_R → Prop} {B : Nat} {S : Nat → Int32} (hI : Inv B S) (hL : cwL 250 sg S) (hD : cwD 200 sg S) {k : Nat} {t : Int32} {z : Int32} {j : Nat} (u_k : k ≤ 7) (u_j : j ≤ 100)
    (o1 : (4 * (sn S 14) ≤ 4 * j) → Q (gRv p sg z))
    (o2 : (¬ (4 * (sn S 14) ≤ 4 * j)) → (¬ sg 261 (4 * j + 1) = nI k) → gW X (d) k_60 7 [some (vR 250), some (vI (nI k)), some (vI t), some (vI z), some (vI (nI (4 * j + 4)))] [] p sg Q)
    (o3 : (¬ (4 * (sn S 14) ≤ 4 * j)) → (sg 261 (4 * j + 1) = nI k) → (sg 261 (4 * j) ≤ t) → gW X (d) k_60 7 [some (vR 250), some (vI (nI k)), some (vI t), some (vI z), some (vI (nI (4 * j + 4)))] [] p sg Q)
    (o4 : (¬ (4 * (sn S 14) ≤ 4 * j)) → (sg 261 (4 * j + 1) = nI k) → (¬ (sg 261 (4 * j) ≤ t)) → gW X (d) k_60 7 [some (vR 250), some (vI (nI k)), some (vI t), some (vI (z &&& ((1 <<< (sg 261 (4 * j + 2) &&& 31)) ^^^ (-1)))), some (vI (nI (4 * j + 4)))] [] p sg Q) :
    gW X (d) k_60 7 [some (vR 250), some (vI (nI k)), some (vI t), some (vI z), some (vI (nI (4 * j)))] [] p sg Q := by
  have b0 := hI.b0; have b1 := hI.b1; have b2 := hI.b2; have b3 := hI.b3; have b4 := hI.b4; have b5 := hI.b5; have b6 := hI.b6; have b7 := hI.b7; have b8 := hI.b8; have b9 := hI.b9; have b14 := hI.b14
  refine g_pure 2 (i' := 9) (lv' := [some (vR 250), some (vI (nI k)), some (vI t), some (vI z), some (vI (nI (4 * j)))]) (st' := [vR 250, vI (nI (4 * j))]) rfl ?_
  refine g_getI rfl (g_A (a := 250) (kd := 0) (n := 6) rfl (by decide)) (show _ = S 14 from hL.f11) ?_
  refine g_pure 2 (i' := 12) (lv' := [some (vR 250), some (vI (nI k)), some (vI t), some (vI z), some (vI (nI (4 * j)))]) (st' := [vI (S 14 * 4), vI (nI (4 * j))]) rfl ?_
  refine gW_eq (lv' := [some (vR 250), some (vI (nI k)), some (vI t), some (vI z), some (vI (nI (4 * j)))]) (st' := [vI (nI (4 * (sn S 14))), vI (nI (4 * j))]) rfl (by rw [(show (S 14 * 4) = nI (4 * (sn S 14)) from ((g_mul (hI.c14) (show (4 : Int32) = nI 4 from rfl))).trans (congrArg nI (by omega)))]) rfl ?_
  refine g_if2 (i' := 42) (P := 4 * (sn S 14) ≤ 4 * j) rfl rfl (g_geN (show nI (4 * j) = nI (4 * j) from (rfl : nI (4 * j) = nI (4 * j))) (show nI (4 * (sn S 14)) = nI (4 * (sn S 14)) from (rfl : nI (4 * (sn S 14)) = nI (4 * (sn S 14)))) (by omega) (by omega)) (fun h1 => ?_) (fun h1 => ?_)
  · refine g_pure 1 (i' := 43) (lv' := [some (vR 250), some (vI (nI k)), some (vI t), some (vI z), some (vI (nI (4 * j)))]) (st' := [vI z]) rfl ?_
    refine g_iret rfl ?_
    exact o1 h1
  · refine g_pure 5 (i' := 18) (lv' := [some (vR 250), some (vI (nI k)), some (vI t), some (vI z), some (vI (nI (4 * j)))]) (st' := [vI (nI (4 * j) + 1), vR 261]) rfl ?_
    refine gW_eq (lv' := [some (vR 250), some (vI (nI k)), some (vI t), some (vI z), some (vI (nI (4 * j)))]) (st' := [vI (nI (4 * j + 1)), vR 261]) rfl (by rw [(show (nI (4 * j) + 1) = nI (4 * j + 1) from ((g_add (rfl : nI (4 * j) = nI (4 * j)) (show (1 : Int32) = nI 1 from rfl))).trans (congrArg nI (by omega)))]) rfl ?_
    refine g_ald rfl (g_A (a := 261) (kd := 1) (n := 400) rfl (by decide)) (by decide) (show nI (4 * j + 1) = nI (4 * j + 1) from (rfl : nI (4 * j + 1) = nI (4 * j + 1))) (by omega) (show _ = sg 261 (4 * j + 1) from rfl) ?_
    refine g_pure 1 (i' := 20) (lv' := [some (vR 250), some (vI (nI k)), some (vI t), some (vI z), some (vI (nI (4 * j)))]) (st' := [vI (nI k), vI (sg 261 (4 * j + 1))]) rfl ?_
    refine g_if2 (i' := 40) (P := ¬ sg 261 (4 * j + 1) = nI k) rfl rfl Iff.rfl (fun h2 => ?_) (fun h2 => ?_)
    · refine g_pure 2 (i' := 7) (lv' := [some (vR 250), some (vI (nI k)), some (vI t), some (vI z), some (vI (nI (4 * j) + 4))]) (st' := []) rfl ?_
      refine gW_eq (lv' := [some (vR 250), some (vI (nI k)), some (vI t), some (vI z), some (vI (nI (4 * j + 4)))]) (st' := []) (by rw [(show (nI (4 * j) + 4) = nI (4 * j + 4) from ((g_add (rfl : nI (4 * j) = nI (4 * j)) (show (4 : Int32) = nI 4 from rfl))).trans (congrArg nI (by omega)))]) rfl rfl ?_
      exact o2 h1 h2
    · have h2 := Classical.not_not.mp h2
      refine g_pure 3 (i' := 24) (lv' := [some (vR 250), some (vI (nI k)), some (vI t), some (vI z), some (vI (nI (4 * j)))]) (st' := [vI (nI (4 * j)), vR 261]) rfl ?_
      refine g_ald rfl (g_A (a := 261) (kd := 1) (n := 400) rfl (by decide)) (by decide) (show nI (4 * j) = nI (4 * j) from (rfl : nI (4 * j) = nI (4 * j))) (by omega) (show _ = sg 261 (4 * j) from rfl) ?_
      refine g_pure 1 (i' := 26) (lv' := [some (vR 250), some (vI (nI k)), some (vI t), some (vI z), some (vI (nI (4 * j)))]) (st' := [vI t, vI (sg 261 (4 * j))]) rfl ?_
      refine g_if2 (i' := 40) (P := sg 261 (4 * j) ≤ t) rfl rfl Iff.rfl (fun h3 => ?_) (fun h3 => ?_)
      · refine g_pure 2 (i' := 7) (lv' := [some (vR 250), some (vI (nI k)), some (vI t), some (vI z), some (vI (nI (4 * j) + 4))]) (st' := []) rfl ?_
        refine gW_eq (lv' := [some (vR 250), some (vI (nI k)), some (vI t), some (vI z), some (vI (nI (4 * j + 4)))]) (st' := []) (by rw [(show (nI (4 * j) + 4) = nI (4 * j + 4) from ((g_add (rfl : nI (4 * j) = nI (4 * j)) (show (4 : Int32) = nI 4 from rfl))).trans (congrArg nI (by omega)))]) rfl rfl ?_
        exact o3 h1 h2 h3
      · refine g_pure 7 (i' := 34) (lv' := [some (vR 250), some (vI (nI k)), some (vI t), some (vI z), some (vI (nI (4 * j)))]) (st' := [vI (nI (4 * j) + 2), vR 261, vI 1, vI z]) rfl ?_
        refine gW_eq (lv' := [some (vR 250), some (vI (nI k)), some (vI t), some (vI z), some (vI (nI (4 * j)))]) (st' := [vI (nI (4 * j + 2)), vR 261, vI 1, vI z]) rfl (by rw [(show (nI (4 * j) + 2) = nI (4 * j + 2) from ((g_add (rfl : nI (4 * j) = nI (4 * j)) (show (2 : Int32) = nI 2 from rfl))).trans (congrArg nI (by omega)))]) rfl ?_
        refine g_ald rfl (g_A (a := 261) (kd := 1) (n := 400) rfl (by decide)) (by decide) (show nI (4 * j + 2) = nI (4 * j + 2) from (rfl : nI (4 * j + 2) = nI (4 * j + 2))) (by omega) (show _ = sg 261 (4 * j + 2) from rfl) ?_
        refine g_pure 7 (i' := 7) (lv' := [some (vR 250), some (vI (nI k)), some (vI t), some (vI (z &&& ((1 <<< (sg 261 (4 * j + 2) &&& 31)) ^^^ (-1)))), some (vI (nI (4 * j) + 4))]) (st' := []) rfl ?_
        refine gW_eq (lv' := [some (vR 250), some (vI (nI k)), some (vI t), some (vI (z &&& ((1 <<< (sg 261 (4 * j + 2) &&& 31)) ^^^ (-1)))), some (vI (nI (4 * j + 4)))]) (st' := []) (by rw [(show (nI (4 * j) + 4) = nI (4 * j + 4) from ((g_add (rfl : nI (4 * j) = nI (4 * j)) (show (4 : Int32) = nI 4 from rfl))).trans (congrArg nI (by omega)))]) rfl rfl ?_
        exact o4 h1 h2 h3

theorem l_60_7 {X : Nat × (Nat → Int32)} {d : Nat} {p : Nat → Nat} {sg : Mg} {Q : am_R → Prop} {B : Nat} {S : Nat → Int32} (hI : Inv B S) (hL : cwL 250 sg S) (hD : cwD 200 sg S) {k : Nat} {t : Int32} (u_k : k ≤ 7) 
    (x1 : Q (gRv p sg (S (113 + 6 * k + 5) &&& andf (fun i => lgm S (nI k) t (sn S 14 - 1 - i)) (sn S 14)))) :
    gW X (d) k_60 7 [some (vR 250), some (vI (nI k)), some (vI t), some (vI (S (113 + 6 * k + 5) &&& andf (fun i => lgm S (nI k) t (sn S 14 - 1 - i)) 0)), some (vI (nI (4 * 0)))] [] p sg Q := by
  have b0 := hI.b0; have b1 := hI.b1; have b2 := hI.b2; have b3 := hI.b3; have b4 := hI.b4; have b5 := hI.b5; have b6 := hI.b6; have b7 := hI.b7; have b8 := hI.b8; have b9 := hI.b9; have b14 := hI.b14
  refine g_upI (P := fun j => gW X (d) k_60 7 [some (vR 250), some (vI (nI k)), some (vI t), some (vI (S (113 + 6 * k + 5) &&& andf (fun i => lgm S (nI k) t (sn S 14 - 1 - i)) j)), some (vI (nI (4 * j)))] [] p sg Q) (I := fun j => True) (n := sn S 14) (a := 0) (by omega) trivial (fun j hj0 hj hi ih => ?_) (fun hi => ?_)
  · have ih : True → gW X (d) k_60 7 [some (vR 250), some (vI (nI k)), some (vI t), some (vI (S (113 + 6 * k + 5) &&& andf (fun i => lgm S (nI k) t (sn S 14 - 1 - i)) (j + 1))), some (vI (nI (4 * (j + 1))))] [] p sg Q := ih
    exact b_60_7 hI hL hD (by omega) (by omega) (fun h1 => by omega) (fun h1 h2 => by rw [show ((S (113 + 6 * k + 5) &&& andf (fun i => lgm S (nI k) t (sn S 14 - 1 - i)) j) : Int32) = (S (113 + 6 * k + 5) &&& andf (fun i => lgm S (nI k) t (sn S 14 - 1 - i)) (j + 1)) from by have e0 := hL.log (k := sn S 14 - 1 - j) 0 (by omega) (by omega); have e1 := hL.log (k := sn S 14 - 1 - j) 1 (by omega) (by omega); have e2 := hL.log (k := sn S 14 - 1 - j) 2 (by omega) (by omega); rw [show sn S 14 - 1 - (sn S 14 - 1 - j) = j by omega] at e0 e1 e2; simp only [andf, lgm, ← i32_and_assoc]; rw [← e1, show S (309 + 4 * (sn S 14 - 1 - j)) = sg 261 (4 * j) from e0.symm, ← e2]; (try simp only [Int32.not_le] at *); first | (rw [if_neg (fun h9 => absurd h9.1 h2), i32_and_neg]; done) | (rw [if_neg (fun h9 => absurd h9.2 (Int32.not_lt.mpr h3)), i32_and_neg]; done) | (rw [if_pos ⟨h2, h3⟩])]; exact ih trivial) (fun h1 h2 h3 => by rw [show ((S (113 + 6 * k + 5) &&& andf (fun i => lgm S (nI k) t (sn S 14 - 1 - i)) j) : Int32) = (S (113 + 6 * k + 5) &&& andf (fun i => lgm S (nI k) t (sn S 14 - 1 - i)) (j + 1)) from by have e0 := hL.log (k := sn S 14 - 1 - j) 0 (by omega) (by omega); have e1 := hL.log (k := sn S 14 - 1 - j) 1 (by omega) (by omega); have e2 := hL.log (k := sn S 14 - 1 - j) 2 (by omega) (by omega); rw [show sn S 14 - 1 - (sn S 14 - 1 - j) = j by omega] at e0 e1 e2; simp only [andf, lgm, ← i32_and_assoc]; rw [← e1, show S (309 + 4 * (sn S 14 - 1 - j)) = sg 261 (4 * j) from e0.symm, ← e2]; (try simp only [Int32.not_le] at *); first | (rw [if_neg (fun h9 => absurd h9.1 h2), i32_and_neg]; done) | (rw [if_neg (fun h9 => absurd h9.2 (Int32.not_lt.mpr h3)), i32_and_neg]; done) | (rw [if_pos ⟨h2, h3⟩])]; exact ih trivial) (fun h1 h2 h3 => by rw [show (((S (113 + 6 * k + 5) &&& andf (fun i => lgm S (nI k) t (sn S 14 - 1 - i)) j) &&& ((1 <<< (sg 261 (4 * j + 2) &&& 31)) ^^^ (-1))) : Int32) = (S (113 + 6 * k + 5) &&& andf (fun i => lgm S (nI k) t (sn S 14 - 1 - i)) (j + 1)) from by have e0 := hL.log (k := sn S 14 - 1 - j) 0 (by omega) (by omega); have e1 := hL.log (k := sn S 14 - 1 - j) 1 (by omega) (by omega); have e2 := hL.log (k := sn S 14 - 1 - j) 2 (by omega) (by omega); rw [show sn S 14 - 1 - (sn S 14 - 1 - j) = j by omega] at e0 e1 e2; simp only [andf, lgm, ← i32_and_assoc]; rw [← e1, show S (309 + 4 * (sn S 14 - 1 - j)) = sg 261 (4 * j) from e0.symm, ← e2]; (try simp only [Int32.not_le] at *); first | (rw [if_neg (fun h9 => absurd h9.1 h2), i32_and_neg]; done) | (rw [if_neg (fun h9 => absurd h9.2 (Int32.not_lt.mpr h3)), i32_and_neg]; done) | (rw [if_pos ⟨h2, h3⟩])]; exact ih trivial)
  · exact b_60_7 hI hL hD (by omega) (by omega) (fun _ => x1) (fun h1 h2 => by omega) (fun h1 h2 h3 => by omega) (fun h1 h2 h3 => by omega)

theorem s_60 {X : Nat × (Nat → Int32)} {d : Nat} {p : Nat → Nat} {sg : Mg} {B : Nat} {S : Nat → Int32} (hI : Inv B S) (hL : cwL 250 sg S) (hD : cwD 200 sg S) {k : Nat} {t : Int32} (hk : k < sn S 1) : gF X (d + 1) 60 [vR 250, vI (nI k), vI t] p sg (fun r => r = gRv p sg (S (113 + 6 * k + 5) &&& andf (lgm S (nI k) t) (sn S 14))) := by
  have b1 := hI.b1
  have h := l_60_7 (X := X) (d := d) (p := p) (Q := fun r => r = gRv p sg (S (113 + 6 * k + 5) &&& andf (lgm S (nI k) t) (sn S 14))) hI hL hD (k := k) (t := t) (by omega) (by rw [andf_rev])
  rw [show andf (fun i => lgm S (nI k) t (sn S 14 - 1 - i)) 0 = -1 from rfl, i32_and_neg] at h
  exact g_in (cd := k_60) (nL := 5) (rc := 7) rfl (g_A (a := 250) (kd := 0) (n := 6) rfl (by decide)) (g_c1 rfl) (b_60_0 hI hL hD (by omega) h)

theorem b_288_28 {X : Nat × (Nat → Int32)} {d : Nat} {p : Nat → Nat} {sg : Mg} {Q : am_R → Prop} {B : Nat} {S : Nat → Int32} (hI : Inv B S) (hS : sg 801 = S) {k : Nat} {t : Int32} {z : Int32} {j : Nat} (u_k : k ≤ 7) (u_j : j ≤ 100)
    (o1 : (sn S 14 ≤ j) → Q (gRv p sg z))
    (o2 : (¬ (sn S 14 ≤ j)) → (¬ S (309 + 4 * j + 1) = nI k) → gW X (d + 2) k_288 28 [some (vR 800), some (vI (nI k)), some (vI t), some (vI (z &&& (-1))), some (vI (nI (j + 1)))] [] p sg Q)
    (o3 : (¬ (sn S 14 ≤ j)) → (S (309 + 4 * j + 1) = nI k) → (S (309 + 4 * j) ≤ t) → gW X (d + 2) k_288 28 [some (vR 800), some (vI (nI k)), some (vI t), some (vI (z &&& (-1))), some (vI (nI (j + 1)))] [] p sg Q)
    (o4 : (¬ (sn S 14 ≤ j)) → (S (309 + 4 * j + 1) = nI k) → (¬ (S (309 + 4 * j) ≤ t)) → gW X (d + 2) k_288 28 [some (vR 800), some (vI (nI k)), some (vI t), some (vI (z &&& ((1 <<< (S (309 + 4 * j + 2) &&& 31)) ^^^ (-1)))), some (vI (nI (j + 1)))] [] p sg Q) :
    gW X (d + 2) k_288 28 [some (vR 800), some (vI (nI k)), some (vI t), some (vI z), some (vI (nI j))] [] p sg Q := by
  have b0 := hI.b0; have b1 := hI.b1; have b2 := hI.b2; have b3 := hI.b3; have b4 := hI.b4; have b5 := hI.b5; have b6 := hI.b6; have b7 := hI.b7; have b8 := hI.b8; have b9 := hI.b9; have b14 := hI.b14
  refine g_pure 4 (i' := 32) (lv' := [some (vR 800), some (vI (nI k)), some (vI t), some (vI z), some (vI (nI j))]) (st' := [vI 14, vR 801, vI (nI j)]) rfl ?_
  refine g_ald rfl (g_A (a := 801) (kd := 1) (n := 2407) rfl (by decide)) (by decide) (show 14 = nI 14 from (show (14 : Int32) = nI 14 from rfl)) (by decide) (show _ = S 14 from (congrFun hS 14)) ?_
  refine g_if2 (i' := 77) (P := sn S 14 ≤ j) rfl rfl (g_geN (show nI j = nI j from (rfl : nI j = nI j)) (show S 14 = nI (sn S 14) from (hI.c14)) (by omega) (by omega)) (fun h1 => ?_) (fun h1 => ?_)
  · refine g_pure 1 (i' := 78) (lv' := [some (vR 800), some (vI (nI k)), some (vI t), some (vI z), some (vI (nI j))]) (st' := [vI z]) rfl ?_
    refine g_iret rfl ?_
    exact o1 h1
  · refine g_pure 10 (i' := 44) (lv' := [some (vR 800), some (vI (nI k)), some (vI t), some (vI z), some (vI (nI j))]) (st' := [vI ((309 + (4 * nI j)) + 1), vR 801, vI z]) rfl ?_
    refine gW_eq (lv' := [some (vR 800), some (vI (nI k)), some (vI t), some (vI z), some (vI (nI j))]) (st' := [vI (nI (309 + 4 * j + 1)), vR 801, vI z]) rfl (by rw [(show ((309 + (4 * nI j)) + 1) = nI (309 + 4 * j + 1) from ((g_add (g_add (show (309 : Int32) = nI 309 from rfl) (g_mul (show (4 : Int32) = nI 4 from rfl) (rfl : nI j = nI j))) (show (1 : Int32) = nI 1 from rfl))).trans (congrArg nI (by omega)))]) rfl ?_
    refine g_ald rfl (g_A (a := 801) (kd := 1) (n := 2407) rfl (by decide)) (by decide) (show nI (309 + 4 * j + 1) = nI (309 + 4 * j + 1) from (rfl : nI (309 + 4 * j + 1) = nI (309 + 4 * j + 1))) (by omega) (show _ = S (309 + 4 * j + 1) from (congrFun hS (309 + 4 * j + 1))) ?_
    refine g_pure 1 (i' := 46) (lv' := [some (vR 800), some (vI (nI k)), some (vI t), some (vI z), some (vI (nI j))]) (st' := [vI (nI k), vI (S (309 + 4 * j + 1)), vI z]) rfl ?_
    refine g_if2 (i' := 72) (P := ¬ S (309 + 4 * j + 1) = nI k) rfl rfl Iff.rfl (fun h2 => ?_) (fun h2 => ?_)
    · refine g_pure 5 (i' := 28) (lv' := [some (vR 800), some (vI (nI k)), some (vI t), some (vI (z &&& (-1))), some (vI (nI j + 1))]) (st' := []) rfl ?_
      refine gW_eq (lv' := [some (vR 800), some (vI (nI k)), some (vI t), some (vI (z &&& (-1))), some (vI (nI (j + 1)))]) (st' := []) (by rw [(show (nI j + 1) = nI (j + 1) from ((g_add (rfl : nI j = nI j) (show (1 : Int32) = nI 1 from rfl))).trans (congrArg nI (by omega)))]) rfl rfl ?_
      exact o2 h1 h2
    · have h2 := Classical.not_not.mp h2
      refine g_pure 7 (i' := 54) (lv' := [some (vR 800), some (vI (nI k)), some (vI t), some (vI z), some (vI (nI j))]) (st' := [vI (309 + (4 * nI j)), vR 801, vI z]) rfl ?_
      refine gW_eq (lv' := [some (vR 800), some (vI (nI k)), some (vI t), some (vI z), some (vI (nI j))]) (st' := [vI (nI (309 + 4 * j)), vR 801, vI z]) rfl (by rw [(show (309 + (4 * nI j)) = nI (309 + 4 * j) from ((g_add (show (309 : Int32) = nI 309 from rfl) (g_mul (show (4 : Int32) = nI 4 from rfl) (rfl : nI j = nI j)))).trans (congrArg nI (by omega)))]) rfl ?_
      refine g_ald rfl (g_A (a := 801) (kd := 1) (n := 2407) rfl (by decide)) (by decide) (show nI (309 + 4 * j) = nI (309 + 4 * j) from (rfl : nI (309 + 4 * j) = nI (309 + 4 * j))) (by omega) (show _ = S (309 + 4 * j) from (congrFun hS (309 + 4 * j))) ?_
      refine g_pure 1 (i' := 56) (lv' := [some (vR 800), some (vI (nI k)), some (vI t), some (vI z), some (vI (nI j))]) (st' := [vI t, vI (S (309 + 4 * j)), vI z]) rfl ?_
      refine g_if2 (i' := 72) (P := S (309 + 4 * j) ≤ t) rfl rfl Iff.rfl (fun h3 => ?_) (fun h3 => ?_)
      · refine g_pure 5 (i' := 28) (lv' := [some (vR 800), some (vI (nI k)), some (vI t), some (vI (z &&& (-1))), some (vI (nI j + 1))]) (st' := []) rfl ?_
        refine gW_eq (lv' := [some (vR 800), some (vI (nI k)), some (vI t), some (vI (z &&& (-1))), some (vI (nI (j + 1)))]) (st' := []) (by rw [(show (nI j + 1) = nI (j + 1) from ((g_add (rfl : nI j = nI j) (show (1 : Int32) = nI 1 from rfl))).trans (congrArg nI (by omega)))]) rfl rfl ?_
        exact o3 h1 h2 h3
      · refine g_pure 10 (i' := 67) (lv' := [some (vR 800), some (vI (nI k)), some (vI t), some (vI z), some (vI (nI j))]) (st' := [vI ((309 + (4 * nI j)) + 2), vR 801, vI 1, vI z]) rfl ?_
        refine gW_eq (lv' := [some (vR 800), some (vI (nI k)), some (vI t), some (vI z), some (vI (nI j))]) (st' := [vI (nI (309 + 4 * j + 2)), vR 801, vI 1, vI z]) rfl (by rw [(show ((309 + (4 * nI j)) + 2) = nI (309 + 4 * j + 2) from ((g_add (g_add (show (309 : Int32) = nI 309 from rfl) (g_mul (show (4 : Int32) = nI 4 from rfl) (rfl : nI j = nI j))) (show (2 : Int32) = nI 2 from rfl))).trans (congrArg nI (by omega)))]) rfl ?_
        refine g_ald rfl (g_A (a := 801) (kd := 1) (n := 2407) rfl (by decide)) (by decide) (show nI (309 + 4 * j + 2) = nI (309 + 4 * j + 2) from (rfl : nI (309 + 4 * j + 2) = nI (309 + 4 * j + 2))) (by omega) (show _ = S (309 + 4 * j + 2) from (congrFun hS (309 + 4 * j + 2))) ?_
        refine g_pure 8 (i' := 28) (lv' := [some (vR 800), some (vI (nI k)), some (vI t), some (vI (z &&& ((1 <<< (S (309 + 4 * j + 2) &&& 31)) ^^^ (-1)))), some (vI (nI j + 1))]) (st' := []) rfl ?_
        refine gW_eq (lv' := [some (vR 800), some (vI (nI k)), some (vI t), some (vI (z &&& ((1 <<< (S (309 + 4 * j + 2) &&& 31)) ^^^ (-1)))), some (vI (nI (j + 1)))]) (st' := []) (by rw [(show (nI j + 1) = nI (j + 1) from ((g_add (rfl : nI j = nI j) (show (1 : Int32) = nI 1 from rfl))).trans (congrArg nI (by omega)))]) rfl rfl ?_
        exact o4 h1 h2 h3

theorem l_288_28 {X : Nat × (Nat → Int32)} {d : Nat} {p : Nat → Nat} {sg : Mg} {Q : am_R → Prop} {B : Nat} {S : Nat → Int32} (hI : Inv B S) (hS : sg 801 = S) {k : Nat} {t : Int32} (u_k : k ≤ 7) 
    (x1 : Q (gRv p sg (S (113 + 6 * k + 5) &&& andf (lgm S (nI k) t) (sn S 14)))) :
    gW X (d + 2) k_288 28 [some (vR 800), some (vI (nI k)), some (vI t), some (vI (S (113 + 6 * k + 5) &&& andf (lgm S (nI k) t) 0)), some (vI (nI 0))] [] p sg Q := by
  have b0 := hI.b0; have b1 := hI.b1; have b2 := hI.b2; have b3 := hI.b3; have b4 := hI.b4; have b5 := hI.b5; have b6 := hI.b6; have b7 := hI.b7; have b8 := hI.b8; have b9 := hI.b9; have b14 := hI.b14
  refine g_upI (P := fun j => gW X (d + 2) k_288 28 [some (vR 800), some (vI (nI k)), some (vI t), some (vI (S (113 + 6 * k + 5) &&& andf (lgm S (nI k) t) j)), some (vI (nI j))] [] p sg Q) (I := fun j => True) (n := sn S 14) (a := 0) (by omega) trivial (fun j hj0 hj hi ih => ?_) (fun hi => ?_)
  · have ih : True → gW X (d + 2) k_288 28 [some (vR 800), some (vI (nI k)), some (vI t), some (vI (S (113 + 6 * k + 5) &&& andf (lgm S (nI k) t) (j + 1))), some (vI (nI (j + 1)))] [] p sg Q := ih
    exact b_288_28 hI hS (by omega) (by omega) (fun h1 => by omega) (fun h1 h2 => by rw [show (((S (113 + 6 * k + 5) &&& andf (lgm S (nI k) t) j) &&& (-1)) : Int32) = (S (113 + 6 * k + 5) &&& andf (lgm S (nI k) t) (j + 1)) from by simp only [andf, lgm, ← i32_and_assoc]; first | (rw [if_neg (fun h9 => absurd h9.1 h2)]; done) | (rw [if_neg (fun h9 => absurd h9.2 (Int32.not_lt.mpr h3))]; done) | (rw [if_pos ⟨h2, Int32.not_le.mp h3⟩])]; exact ih trivial) (fun h1 h2 h3 => by rw [show (((S (113 + 6 * k + 5) &&& andf (lgm S (nI k) t) j) &&& (-1)) : Int32) = (S (113 + 6 * k + 5) &&& andf (lgm S (nI k) t) (j + 1)) from by simp only [andf, lgm, ← i32_and_assoc]; first | (rw [if_neg (fun h9 => absurd h9.1 h2)]; done) | (rw [if_neg (fun h9 => absurd h9.2 (Int32.not_lt.mpr h3))]; done) | (rw [if_pos ⟨h2, Int32.not_le.mp h3⟩])]; exact ih trivial) (fun h1 h2 h3 => by rw [show (((S (113 + 6 * k + 5) &&& andf (lgm S (nI k) t) j) &&& ((1 <<< (S (309 + 4 * j + 2) &&& 31)) ^^^ (-1))) : Int32) = (S (113 + 6 * k + 5) &&& andf (lgm S (nI k) t) (j + 1)) from by simp only [andf, lgm, ← i32_and_assoc]; first | (rw [if_neg (fun h9 => absurd h9.1 h2)]; done) | (rw [if_neg (fun h9 => absurd h9.2 (Int32.not_lt.mpr h3))]; done) | (rw [if_pos ⟨h2, Int32.not_le.mp h3⟩])]; exact ih trivial)
  · exact b_288_28 hI hS (by omega) (by omega) (fun _ => x1) (fun h1 h2 => by omega) (fun h1 h2 h3 => by omega) (fun h1 h2 h3 => by omega)

theorem l_288_28' {X : Nat × (Nat → Int32)} {d : Nat} {p : Nat → Nat} {sg : Mg} {B : Nat} {S : Nat → Int32} (hI : Inv B S) (hS : sg 801 = S) {Q : am_R → Prop} {k : Nat} {t : Int32} (hk : k ≤ 7) (x : Q (gRv p sg (S (113 + 6 * k + 5) &&& andf (lgm S (nI k) t) (sn S 14)))) : gW X (d + 2) k_288 28 [some (vR 800), some (vI (nI k)), some (vI t), some (vI (S (113 + 6 * k + 5))), some (vI 0)] [] p sg Q := by
  have h := l_288_28 (X := X) (d := d) hI hS (k := k) (t := t) hk x
  rw [show andf (lgm S (nI k) t) 0 = -1 from rfl, i32_and_neg] at h
  exact h

def knewR (S : Nat → Int32) (x t : Int32) : Nat × Int32 := if okx x (sn S 1) then (if t < 0 then (2, 0) else (0, S (113 + 6 * x.toNatClampNeg + 5) &&& andf (lgm S x t) (sn S 14))) else (1, 0)

theorem b_166_0 {X : Nat × (Nat → Int32)} {d : Nat} {p : Nat → Nat} {sg : Mg} {Q : am_R → Prop} {B : Nat} {S : Nat → Int32} (hI : Inv B S) (hL : cwL 250 sg S) (hD : cwD 200 sg S) {x : Int32} {t : Int32}
    (o1 : ∀ n2 : Nat, x = nI n2 → n2 < sn S 1 → (0 ≤ t) → Q (gRv p sg (S (113 + 6 * n2 + 5) &&& andf (lgm S (nI n2) t) (sn S 14))))
    (o2 : ∀ n2 : Nat, x = nI n2 → n2 < sn S 1 → (¬ (0 ≤ t)) → Q (gRx p sg 0))
    (o3 : (¬ okx x (sn S 1)) → Q (gRx p sg 2)) :
    gW X (d + 3) k_166 0 [some (vR 0), some (vI x), some (vI t)] [] p sg Q := by
  have b0 := hI.b0; have b1 := hI.b1; have b2 := hI.b2; have b3 := hI.b3; have b4 := hI.b4; have b5 := hI.b5; have b6 := hI.b6; have b7 := hI.b7; have b8 := hI.b8; have b9 := hI.b9; have b14 := hI.b14
  refine g_pure 3 (i' := 3) (lv' := [some (vR 0), some (vI x), some (vI t)]) (st' := [vI x, vI 1, vR 0]) rfl ?_
  by_cases h1 : okx x (sn S 1)
  · obtain ⟨n2, ln2, en2⟩ := okx_of h1
    subst en2
    refine gW_eq (st' := [vI (nI n2), vI (nI 1), vR 0]) rfl (by rw [(show (1 : Int32) = nI 1 from rfl)]) rfl ?_
    refine g_cV0 rfl (args := [vR 0, vI (nI 1), vI (nI n2)]) (rest := []) rfl rfl rfl (s_140o (d := d + 1) hI hL hD (by omega) ((okx_nI (by omega)).mpr (by omega))) ?_
    refine g_pure 1 (i' := 5) (lv' := [some (vR 0), some (vI (nI n2)), some (vI t)]) (st' := [vI t]) rfl ?_
    refine g_if1 (i' := 11) (P := 0 ≤ t) rfl rfl Iff.rfl (fun h3 => ?_) (fun h3 => ?_)
    · refine g_pure 5 (i' := 16) (lv' := [some (vR 0), some (vI (nI n2)), some (vI t)]) (st' := [vI t, vI (nI n2), vR 250]) rfl ?_
      refine g_cV1 rfl (args := [vR 250, vI (nI n2), vI t]) (rest := []) rfl rfl rfl (s_60 (d := d + 2) hI hL hD (by omega)) ?_
      refine g_iret rfl ?_
      exact o1 n2 rfl ln2 h3
    · refine g_thr' rfl rfl ?_
      exact o2 n2 rfl ln2 h3
  · refine gW_eq (st' := [vI x, vI (nI 1), vR 0]) rfl (by rw [(show (1 : Int32) = nI 1 from rfl)]) rfl ?_
    refine g_cVx rfl (args := [vR 0, vI (nI 1), vI x]) (rest := []) rfl rfl rfl (s_140x (d := d + 1) hI hL hD (by omega) (by assumption)) ?_
    exact o3 h1

theorem b_288_0 {X : Nat × (Nat → Int32)} {d : Nat} {p : Nat → Nat} {sg : Mg} {Q : am_R → Prop} {B : Nat} {S : Nat → Int32} (hI : Inv B S) (hS : sg 801 = S) {x : Int32} {t : Int32}
    (o1 : ∀ s1 : Mg, s1 = mu sg 800 0 0 → (¬ okx x (sn S 1)) → ∀ s3 : Mg, s3 = mu s1 800 0 (nI 1) → Q (gRv p s3 0))
    (o2 : ∀ s1 : Mg, s1 = mu sg 800 0 0 → ∀ n5 : Nat, x = nI n5 → n5 < sn S 1 → (0 ≤ t) → gW X (d + 2) k_288 28 [some (vR 800), some (vI (nI n5)), some (vI t), some (vI (S (113 + 6 * n5 + 5))), some (vI 0)] [] p s1 Q)
    (o3 : ∀ s1 : Mg, s1 = mu sg 800 0 0 → ∀ n5 : Nat, x = nI n5 → n5 < sn S 1 → (¬ (0 ≤ t)) → ∀ s9 : Mg, s9 = mu s1 800 0 (nI 2) → Q (gRv p s9 0)) :
    gW X (d + 2) k_288 0 [some (vR 800), some (vI x), some (vI t), none, none] [] p sg Q := by
  have b0 := hI.b0; have b1 := hI.b1; have b2 := hI.b2; have b3 := hI.b3; have b4 := hI.b4; have b5 := hI.b5; have b6 := hI.b6; have b7 := hI.b7; have b8 := hI.b8; have b9 := hI.b9; have b14 := hI.b14
  refine g_pure 2 (i' := 2) (lv' := [some (vR 800), some (vI x), some (vI t), none, none]) (st' := [vI 0, vR 800]) rfl ?_
  refine g_putI rfl (g_A (a := 800) (kd := 0) (n := 12) rfl (by decide)) ?_
  refine g_setv (fun s1 es1 => ?_)
  have hSs1 : s1 801 = S := by rw [es1, mu_ne (by decide), hS]
  refine g_pure 3 (i' := 6) (lv' := [some (vR 800), some (vI x), some (vI t), none, none]) (st' := [vI x, vR 800, vR 800]) rfl ?_
  refine g_cV1 rfl (args := [vR 800, vI x]) (rest := [vR 800]) rfl rfl rfl (s_237 (d := d) hI hSs1) ?_
  refine g_pure 1 (i' := 8) (lv' := [some (vR 800), some (vI x), some (vI t), none, none]) (st' := [vI 1, vI (if ¬ okx x (sn S 1) then 1 else 0), vR 800]) rfl ?_
  by_cases h2 : ¬ okx x (sn S 1)
  · refine gW_eq (st' := [vI 1, vI 1, vR 800]) rfl (by rw [if_pos h2]) rfl ?_
    refine gW_eq (st' := [vI (nI 1), vI 1, vR 800]) rfl (by rw [(show (1 : Int32) = nI 1 from rfl)]) rfl ?_
    refine g_cV1 rfl (args := [vR 800, vI 1, vI (nI 1)]) (rest := []) rfl rfl rfl (s_227t (d := d + 1) (by omega)) ?_
    refine g_setv (fun s3 es3 => ?_)
    have hSs3 : s3 801 = S := by rw [es3, mu_ne (by decide), hSs1]
    refine g_if1 (i' := 19) (P := ¬ 1 = 0) rfl rfl (g_neN (show 1 = nI 1 from (show (1 : Int32) = nI 1 from rfl)) (show 0 = nI 0 from (show (0 : Int32) = nI 0 from rfl)) (by omega) (by omega)) (fun _ => ?_) (fun h4 => absurd (by omega) h4)
    refine g_pure 1 (i' := 20) (lv' := [some (vR 800), some (vI x), some (vI t), none, none]) (st' := [vI 0]) rfl ?_
    refine g_iret rfl ?_
    exact o1 s1 es1 h2 s3 es3
  · have h2 := Classical.not_not.mp h2
    refine gW_eq (st' := [vI 1, vI 0, vR 800]) rfl (by rw [if_neg (fun n9 => n9 h2)]) rfl ?_
    obtain ⟨n5, ln5, en5⟩ := okx_of h2
    subst en5
    refine gW_eq (st' := [vI (nI 1), vI 0, vR 800]) rfl (by rw [(show (1 : Int32) = nI 1 from rfl)]) rfl ?_
    refine g_cV1 rfl (args := [vR 800, vI 0, vI (nI 1)]) (rest := []) rfl rfl rfl (s_227f (d := d + 1) (by omega)) ?_
    refine g_if1 (i' := 19) (P := ¬ 0 = 0) rfl rfl (g_neN (show 0 = nI 0 from (show (0 : Int32) = nI 0 from rfl)) (show 0 = nI 0 from (show (0 : Int32) = nI 0 from rfl)) (by omega) (by omega)) (fun h6 => absurd h6 (by omega)) (fun _ => ?_)
    refine g_pure 2 (i' := 12) (lv' := [some (vR 800), some (vI (nI n5)), some (vI t), none, none]) (st' := [vI t, vR 800]) rfl ?_
    refine g_if1 (i' := 15) (P := 0 ≤ t) rfl rfl Iff.rfl (fun h7 => ?_) (fun h7 => ?_)
    · refine g_pure 2 (i' := 17) (lv' := [some (vR 800), some (vI (nI n5)), some (vI t), none, none]) (st' := [vI 2, vI 0, vR 800]) rfl ?_
      refine gW_eq (st' := [vI (nI 2), vI 0, vR 800]) rfl (by rw [(show (2 : Int32) = nI 2 from rfl)]) rfl ?_
      refine g_cV1 rfl (args := [vR 800, vI 0, vI (nI 2)]) (rest := []) rfl rfl rfl (s_227f (d := d + 1) (by omega)) ?_
      refine g_if1 (i' := 21) (P := 0 = 0) rfl rfl (g_eqN (show 0 = nI 0 from (show (0 : Int32) = nI 0 from rfl)) (show 0 = nI 0 from (show (0 : Int32) = nI 0 from rfl)) (by omega) (by omega)) (fun _ => ?_) (fun h8 => absurd (by omega) h8)
      refine g_pure 3 (i' := 24) (lv' := [some (vR 800), some (vI (nI n5)), some (vI t), none, none]) (st' := [vI 5, vI (nI n5), vR 800]) rfl ?_
      refine gW_eq (st' := [vI (nI 5), vI (nI n5), vR 800]) rfl (by rw [(show (5 : Int32) = nI 5 from rfl)]) rfl ?_
      refine g_cV1 rfl (args := [vR 800, vI (nI n5), vI (nI 5)]) (rest := []) rfl rfl rfl (s_238 (d := d + 1) hSs1 (by omega) (by omega)) ?_
      refine g_pure 3 (i' := 28) (lv' := [some (vR 800), some (vI (nI n5)), some (vI t), some (vI (S (113 + 6 * n5 + 5))), some (vI 0)]) (st' := []) rfl ?_
      exact o2 s1 es1 n5 rfl ln5 h7
    · refine g_pure 3 (i' := 17) (lv' := [some (vR 800), some (vI (nI n5)), some (vI t), none, none]) (st' := [vI 2, vI 1, vR 800]) rfl ?_
      refine gW_eq (st' := [vI (nI 2), vI 1, vR 800]) rfl (by rw [(show (2 : Int32) = nI 2 from rfl)]) rfl ?_
      refine g_cV1 rfl (args := [vR 800, vI 1, vI (nI 2)]) (rest := []) rfl rfl rfl (s_227t (d := d + 1) (by omega)) ?_
      refine g_setv (fun s9 es9 => ?_)
      have hSs9 : s9 801 = S := by rw [es9, mu_ne (by decide), hSs1]
      refine g_if1 (i' := 21) (P := 1 = 0) rfl rfl (g_eqN (show 1 = nI 1 from (show (1 : Int32) = nI 1 from rfl)) (show 0 = nI 0 from (show (0 : Int32) = nI 0 from rfl)) (by omega) (by omega)) (fun h10 => absurd h10 (by omega)) (fun _ => ?_)
      refine g_pure 1 (i' := 20) (lv' := [some (vR 800), some (vI (nI n5)), some (vI t), none, none]) (st' := [vI 0]) rfl ?_
      refine g_iret rfl ?_
      exact o3 s1 es1 n5 rfl ln5 h7 s9 es9

theorem c_knew {X : Nat × (Nat → Int32)} {d : Nat} {p : Nat → Nat} {sg : Mg} {B : Nat} {S : Nat → Int32} (hI : Inv B S) (hL : cwL 250 sg S) (hD : cwD 200 sg S) {x t : Int32} : gF X (d + 4) 166 [vR 0, vI x, vI t] p sg (oC p sg (fun c => if c = 1 then 2 else 0) (knewR S x t)) := by
  have b1 := hI.b1
  refine g_in (cd := k_166) (nL := 3) (rc := 12) rfl (g_A (a := 0) (kd := 0) (n := 11) rfl (by decide)) (g_c1 rfl) (b_166_0 hI hL hD ?_ ?_ ?_)
  · intro n e l h
    subst e
    refine oC_0 ?_
    unfold knewR
    rw [if_pos ((okx_nI (by omega)).mpr l), if_neg (Int32.not_lt.mpr h), nI_clamp (by omega)]
  · intro n e l h
    subst e
    refine oC_x (c := 1) ?_ rfl
    unfold knewR
    rw [if_pos ((okx_nI (by omega)).mpr l), if_pos (Int32.not_le.mp h)]
  · intro h
    refine oC_x (c := 0) ?_ rfl
    unfold knewR
    rw [if_neg h]
theorem m_knew {X : Nat × (Nat → Int32)} {d : Nat} {p : Nat → Nat} {sg : Mg} {B : Nat} {S : Nat → Int32} (hI : Inv B S) (hS : sg 801 = S) {x t : Int32} : gF X (d + 3) 288 [vR 800, vI x, vI t] p sg (oM p sg (knewR S x t)) := by
  have b1 := hI.b1
  refine g_in (cd := k_288) (nL := 5) (rc := 13) rfl (g_A (a := 800) (kd := 0) (n := 12) rfl (by decide)) (g_c1 rfl) (b_288_0 hI hS ?_ ?_ ?_)
  · intro s1 f1 h s3 f3
    refine oM_x (c := 0) f1 f3 ?_
    unfold knewR
    rw [if_neg h]
  · intro s1 f1 n e l h
    subst e
    refine l_288_28' hI (show s1 801 = S by rw [f1, mu_ne (by decide)]; exact hS) (by omega) (oM_0 f1 ?_)
    unfold knewR
    rw [if_pos ((okx_nI (by omega)).mpr l), if_neg (Int32.not_lt.mpr h), nI_clamp (by omega)]
  · intro s1 f1 n e l h s3 f3
    subst e
    refine oM_x (c := 1) f1 f3 ?_
    unfold knewR
    rw [if_pos ((okx_nI (by omega)).mpr l), if_pos (Int32.not_le.mp h)]
