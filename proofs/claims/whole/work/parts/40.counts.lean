/-! COUNTS (made by wip/whole/gen40.py) -/
theorem s_317r {X : Nat × (Nat → Int32)} {d : Nat} {p : Nat → Nat} {sg : Mg} {x : Int32} : gF X (d + 1) 317 [vI x] p sg (fun r => r = gRv p sg ((((((((x - (((x : Int32).toUInt32 >>> ((1 : Int32).toUInt32 &&& Int32.toUInt32 31)).toInt32 &&& 1431655765)) &&& 858993459) + ((((x - (((x : Int32).toUInt32 >>> ((1 : Int32).toUInt32 &&& Int32.toUInt32 31)).toInt32 &&& 1431655765)) : Int32).toUInt32 >>> ((2 : Int32).toUInt32 &&& Int32.toUInt32 31)).toInt32 &&& 858993459)) + (((((x - (((x : Int32).toUInt32 >>> ((1 : Int32).toUInt32 &&& Int32.toUInt32 31)).toInt32 &&& 1431655765)) &&& 858993459) + ((((x - (((x : Int32).toUInt32 >>> ((1 : Int32).toUInt32 &&& Int32.toUInt32 31)).toInt32 &&& 1431655765)) : Int32).toUInt32 >>> ((2 : Int32).toUInt32 &&& Int32.toUInt32 31)).toInt32 &&& 858993459)) : Int32).toUInt32 >>> ((4 : Int32).toUInt32 &&& Int32.toUInt32 31)).toInt32) &&& 252645135) + (((((((x - (((x : Int32).toUInt32 >>> ((1 : Int32).toUInt32 &&& Int32.toUInt32 31)).toInt32 &&& 1431655765)) &&& 858993459) + ((((x - (((x : Int32).toUInt32 >>> ((1 : Int32).toUInt32 &&& Int32.toUInt32 31)).toInt32 &&& 1431655765)) : Int32).toUInt32 >>> ((2 : Int32).toUInt32 &&& Int32.toUInt32 31)).toInt32 &&& 858993459)) + (((((x - (((x : Int32).toUInt32 >>> ((1 : Int32).toUInt32 &&& Int32.toUInt32 31)).toInt32 &&& 1431655765)) &&& 858993459) + ((((x - (((x : Int32).toUInt32 >>> ((1 : Int32).toUInt32 &&& Int32.toUInt32 31)).toInt32 &&& 1431655765)) : Int32).toUInt32 >>> ((2 : Int32).toUInt32 &&& Int32.toUInt32 31)).toInt32 &&& 858993459)) : Int32).toUInt32 >>> ((4 : Int32).toUInt32 &&& Int32.toUInt32 31)).toInt32) &&& 252645135) : Int32).toUInt32 >>> ((8 : Int32).toUInt32 &&& Int32.toUInt32 31)).toInt32) + ((((((((x - (((x : Int32).toUInt32 >>> ((1 : Int32).toUInt32 &&& Int32.toUInt32 31)).toInt32 &&& 1431655765)) &&& 858993459) + ((((x - (((x : Int32).toUInt32 >>> ((1 : Int32).toUInt32 &&& Int32.toUInt32 31)).toInt32 &&& 1431655765)) : Int32).toUInt32 >>> ((2 : Int32).toUInt32 &&& Int32.toUInt32 31)).toInt32 &&& 858993459)) + (((((x - (((x : Int32).toUInt32 >>> ((1 : Int32).toUInt32 &&& Int32.toUInt32 31)).toInt32 &&& 1431655765)) &&& 858993459) + ((((x - (((x : Int32).toUInt32 >>> ((1 : Int32).toUInt32 &&& Int32.toUInt32 31)).toInt32 &&& 1431655765)) : Int32).toUInt32 >>> ((2 : Int32).toUInt32 &&& Int32.toUInt32 31)).toInt32 &&& 858993459)) : Int32).toUInt32 >>> ((4 : Int32).toUInt32 &&& Int32.toUInt32 31)).toInt32) &&& 252645135) + (((((((x - (((x : Int32).toUInt32 >>> ((1 : Int32).toUInt32 &&& Int32.toUInt32 31)).toInt32 &&& 1431655765)) &&& 858993459) + ((((x - (((x : Int32).toUInt32 >>> ((1 : Int32).toUInt32 &&& Int32.toUInt32 31)).toInt32 &&& 1431655765)) : Int32).toUInt32 >>> ((2 : Int32).toUInt32 &&& Int32.toUInt32 31)).toInt32 &&& 858993459)) + (((((x - (((x : Int32).toUInt32 >>> ((1 : Int32).toUInt32 &&& Int32.toUInt32 31)).toInt32 &&& 1431655765)) &&& 858993459) + ((((x - (((x : Int32).toUInt32 >>> ((1 : Int32).toUInt32 &&& Int32.toUInt32 31)).toInt32 &&& 1431655765)) : Int32).toUInt32 >>> ((2 : Int32).toUInt32 &&& Int32.toUInt32 31)).toInt32 &&& 858993459)) : Int32).toUInt32 >>> ((4 : Int32).toUInt32 &&& Int32.toUInt32 31)).toInt32) &&& 252645135) : Int32).toUInt32 >>> ((8 : Int32).toUInt32 &&& Int32.toUInt32 31)).toInt32) : Int32).toUInt32 >>> ((16 : Int32).toUInt32 &&& Int32.toUInt32 31)).toInt32) &&& 63)) := by
  refine g_in (cd := k_317) (nL := 1) (rc := 0) rfl trivial (g_c1 rfl) ?_
  show gW X (d) k_317 0 [some (vI x)] [] p sg _
  refine g_pure 41 (i' := 41) (lv' := [some (vI (((((((x - (((x : Int32).toUInt32 >>> ((1 : Int32).toUInt32 &&& Int32.toUInt32 31)).toInt32 &&& 1431655765)) &&& 858993459) + ((((x - (((x : Int32).toUInt32 >>> ((1 : Int32).toUInt32 &&& Int32.toUInt32 31)).toInt32 &&& 1431655765)) : Int32).toUInt32 >>> ((2 : Int32).toUInt32 &&& Int32.toUInt32 31)).toInt32 &&& 858993459)) + (((((x - (((x : Int32).toUInt32 >>> ((1 : Int32).toUInt32 &&& Int32.toUInt32 31)).toInt32 &&& 1431655765)) &&& 858993459) + ((((x - (((x : Int32).toUInt32 >>> ((1 : Int32).toUInt32 &&& Int32.toUInt32 31)).toInt32 &&& 1431655765)) : Int32).toUInt32 >>> ((2 : Int32).toUInt32 &&& Int32.toUInt32 31)).toInt32 &&& 858993459)) : Int32).toUInt32 >>> ((4 : Int32).toUInt32 &&& Int32.toUInt32 31)).toInt32) &&& 252645135) + (((((((x - (((x : Int32).toUInt32 >>> ((1 : Int32).toUInt32 &&& Int32.toUInt32 31)).toInt32 &&& 1431655765)) &&& 858993459) + ((((x - (((x : Int32).toUInt32 >>> ((1 : Int32).toUInt32 &&& Int32.toUInt32 31)).toInt32 &&& 1431655765)) : Int32).toUInt32 >>> ((2 : Int32).toUInt32 &&& Int32.toUInt32 31)).toInt32 &&& 858993459)) + (((((x - (((x : Int32).toUInt32 >>> ((1 : Int32).toUInt32 &&& Int32.toUInt32 31)).toInt32 &&& 1431655765)) &&& 858993459) + ((((x - (((x : Int32).toUInt32 >>> ((1 : Int32).toUInt32 &&& Int32.toUInt32 31)).toInt32 &&& 1431655765)) : Int32).toUInt32 >>> ((2 : Int32).toUInt32 &&& Int32.toUInt32 31)).toInt32 &&& 858993459)) : Int32).toUInt32 >>> ((4 : Int32).toUInt32 &&& Int32.toUInt32 31)).toInt32) &&& 252645135) : Int32).toUInt32 >>> ((8 : Int32).toUInt32 &&& Int32.toUInt32 31)).toInt32) + ((((((((x - (((x : Int32).toUInt32 >>> ((1 : Int32).toUInt32 &&& Int32.toUInt32 31)).toInt32 &&& 1431655765)) &&& 858993459) + ((((x - (((x : Int32).toUInt32 >>> ((1 : Int32).toUInt32 &&& Int32.toUInt32 31)).toInt32 &&& 1431655765)) : Int32).toUInt32 >>> ((2 : Int32).toUInt32 &&& Int32.toUInt32 31)).toInt32 &&& 858993459)) + (((((x - (((x : Int32).toUInt32 >>> ((1 : Int32).toUInt32 &&& Int32.toUInt32 31)).toInt32 &&& 1431655765)) &&& 858993459) + ((((x - (((x : Int32).toUInt32 >>> ((1 : Int32).toUInt32 &&& Int32.toUInt32 31)).toInt32 &&& 1431655765)) : Int32).toUInt32 >>> ((2 : Int32).toUInt32 &&& Int32.toUInt32 31)).toInt32 &&& 858993459)) : Int32).toUInt32 >>> ((4 : Int32).toUInt32 &&& Int32.toUInt32 31)).toInt32) &&& 252645135) + (((((((x - (((x : Int32).toUInt32 >>> ((1 : Int32).toUInt32 &&& Int32.toUInt32 31)).toInt32 &&& 1431655765)) &&& 858993459) + ((((x - (((x : Int32).toUInt32 >>> ((1 : Int32).toUInt32 &&& Int32.toUInt32 31)).toInt32 &&& 1431655765)) : Int32).toUInt32 >>> ((2 : Int32).toUInt32 &&& Int32.toUInt32 31)).toInt32 &&& 858993459)) + (((((x - (((x : Int32).toUInt32 >>> ((1 : Int32).toUInt32 &&& Int32.toUInt32 31)).toInt32 &&& 1431655765)) &&& 858993459) + ((((x - (((x : Int32).toUInt32 >>> ((1 : Int32).toUInt32 &&& Int32.toUInt32 31)).toInt32 &&& 1431655765)) : Int32).toUInt32 >>> ((2 : Int32).toUInt32 &&& Int32.toUInt32 31)).toInt32 &&& 858993459)) : Int32).toUInt32 >>> ((4 : Int32).toUInt32 &&& Int32.toUInt32 31)).toInt32) &&& 252645135) : Int32).toUInt32 >>> ((8 : Int32).toUInt32 &&& Int32.toUInt32 31)).toInt32) : Int32).toUInt32 >>> ((16 : Int32).toUInt32 &&& Int32.toUInt32 31)).toInt32))]) (st' := [vI ((((((((x - (((x : Int32).toUInt32 >>> ((1 : Int32).toUInt32 &&& Int32.toUInt32 31)).toInt32 &&& 1431655765)) &&& 858993459) + ((((x - (((x : Int32).toUInt32 >>> ((1 : Int32).toUInt32 &&& Int32.toUInt32 31)).toInt32 &&& 1431655765)) : Int32).toUInt32 >>> ((2 : Int32).toUInt32 &&& Int32.toUInt32 31)).toInt32 &&& 858993459)) + (((((x - (((x : Int32).toUInt32 >>> ((1 : Int32).toUInt32 &&& Int32.toUInt32 31)).toInt32 &&& 1431655765)) &&& 858993459) + ((((x - (((x : Int32).toUInt32 >>> ((1 : Int32).toUInt32 &&& Int32.toUInt32 31)).toInt32 &&& 1431655765)) : Int32).toUInt32 >>> ((2 : Int32).toUInt32 &&& Int32.toUInt32 31)).toInt32 &&& 858993459)) : Int32).toUInt32 >>> ((4 : Int32).toUInt32 &&& Int32.toUInt32 31)).toInt32) &&& 252645135) + (((((((x - (((x : Int32).toUInt32 >>> ((1 : Int32).toUInt32 &&& Int32.toUInt32 31)).toInt32 &&& 1431655765)) &&& 858993459) + ((((x - (((x : Int32).toUInt32 >>> ((1 : Int32).toUInt32 &&& Int32.toUInt32 31)).toInt32 &&& 1431655765)) : Int32).toUInt32 >>> ((2 : Int32).toUInt32 &&& Int32.toUInt32 31)).toInt32 &&& 858993459)) + (((((x - (((x : Int32).toUInt32 >>> ((1 : Int32).toUInt32 &&& Int32.toUInt32 31)).toInt32 &&& 1431655765)) &&& 858993459) + ((((x - (((x : Int32).toUInt32 >>> ((1 : Int32).toUInt32 &&& Int32.toUInt32 31)).toInt32 &&& 1431655765)) : Int32).toUInt32 >>> ((2 : Int32).toUInt32 &&& Int32.toUInt32 31)).toInt32 &&& 858993459)) : Int32).toUInt32 >>> ((4 : Int32).toUInt32 &&& Int32.toUInt32 31)).toInt32) &&& 252645135) : Int32).toUInt32 >>> ((8 : Int32).toUInt32 &&& Int32.toUInt32 31)).toInt32) + ((((((((x - (((x : Int32).toUInt32 >>> ((1 : Int32).toUInt32 &&& Int32.toUInt32 31)).toInt32 &&& 1431655765)) &&& 858993459) + ((((x - (((x : Int32).toUInt32 >>> ((1 : Int32).toUInt32 &&& Int32.toUInt32 31)).toInt32 &&& 1431655765)) : Int32).toUInt32 >>> ((2 : Int32).toUInt32 &&& Int32.toUInt32 31)).toInt32 &&& 858993459)) + (((((x - (((x : Int32).toUInt32 >>> ((1 : Int32).toUInt32 &&& Int32.toUInt32 31)).toInt32 &&& 1431655765)) &&& 858993459) + ((((x - (((x : Int32).toUInt32 >>> ((1 : Int32).toUInt32 &&& Int32.toUInt32 31)).toInt32 &&& 1431655765)) : Int32).toUInt32 >>> ((2 : Int32).toUInt32 &&& Int32.toUInt32 31)).toInt32 &&& 858993459)) : Int32).toUInt32 >>> ((4 : Int32).toUInt32 &&& Int32.toUInt32 31)).toInt32) &&& 252645135) + (((((((x - (((x : Int32).toUInt32 >>> ((1 : Int32).toUInt32 &&& Int32.toUInt32 31)).toInt32 &&& 1431655765)) &&& 858993459) + ((((x - (((x : Int32).toUInt32 >>> ((1 : Int32).toUInt32 &&& Int32.toUInt32 31)).toInt32 &&& 1431655765)) : Int32).toUInt32 >>> ((2 : Int32).toUInt32 &&& Int32.toUInt32 31)).toInt32 &&& 858993459)) + (((((x - (((x : Int32).toUInt32 >>> ((1 : Int32).toUInt32 &&& Int32.toUInt32 31)).toInt32 &&& 1431655765)) &&& 858993459) + ((((x - (((x : Int32).toUInt32 >>> ((1 : Int32).toUInt32 &&& Int32.toUInt32 31)).toInt32 &&& 1431655765)) : Int32).toUInt32 >>> ((2 : Int32).toUInt32 &&& Int32.toUInt32 31)).toInt32 &&& 858993459)) : Int32).toUInt32 >>> ((4 : Int32).toUInt32 &&& Int32.toUInt32 31)).toInt32) &&& 252645135) : Int32).toUInt32 >>> ((8 : Int32).toUInt32 &&& Int32.toUInt32 31)).toInt32) : Int32).toUInt32 >>> ((16 : Int32).toUInt32 &&& Int32.toUInt32 31)).toInt32) &&& 63)]) rfl ?_
  refine g_iret rfl ?_
  exact rfl

theorem s_317 {X : Nat × (Nat → Int32)} {d : Nat} {p : Nat → Nat} {sg : Mg} {x : Int32} : gF X (d + 1) 317 [vI x] p sg (fun r => r = gRv p sg (bcI x)) := s_317r
theorem cnt_left (P : Nat → Bool) : ∀ n, cnt P (n + 1) = (if P 0 then 1 else 0) + cnt (fun k => P (k + 1)) n
  | 0 => by simp [cnt]
  | n + 1 => by
    rw [cnt, cnt_left P n, cnt]
    omega
theorem cnt_ext {P Q : Nat → Bool} : ∀ {n : Nat}, (∀ k, k < n → P k = Q k) → cnt P n = cnt Q n
  | 0, _ => rfl
  | n + 1, h => by
    rw [cnt, cnt, cnt_ext (fun k hk => h k (by omega)), h n (by omega)]
theorem popc_cnt : ∀ f m, popc f m = cnt (fun k => m.testBit k) f
  | 0, _ => rfl
  | f + 1, m => by
    rw [popc, popc_cnt f (m / 2), cnt_left]
    congr 1
    · rw [Nat.testBit_zero]
      by_cases h : m % 2 = 1
      · simp [h]
      · simp [h]; omega
    · exact cnt_ext (fun k _ => (Nat.testBit_succ m k).symm)
theorem cnt_none {P : Nat → Bool} {n : Nat} : ∀ {m : Nat}, (∀ k, n ≤ k → P k = false) → n ≤ m → cnt P m = cnt P n
  | 0, _, h => by have : n = 0 := by omega
                  subst this; rfl
  | m + 1, hp, h => by
    rcases Nat.lt_or_ge n (m + 1) with h1 | h1
    · rw [cnt, cnt_none hp (by omega), hp m (by omega)]
      rfl
    · have : n = m + 1 := by omega
      subst this; rfl
theorem popc_bset {P : Nat → Bool} {n : Nat} (hn : n ≤ 9) : popc 9 (bset P n) = cnt P n := by
  rw [popc_cnt, cnt_none (n := n) (fun k hk => by rw [bset_bit]; simp; omega) hn]
  exact cnt_ext (fun k hk => by rw [bset_bit]; simp [hk])
theorem bcI_bset {P : Nat → Bool} {n : Nat} (hn : n ≤ 9) : bcI (nI (bset P n)) = nI (cnt P n) := by
  have h1 : bset P n < 512 := Nat.lt_of_lt_of_le (bset_lt P n) (Nat.pow_le_pow_right (by decide) hn)
  rw [bcI_nI _ h1, popc_bset hn]
theorem cnt_not (P : Nat → Bool) : ∀ n, cnt P n + cnt (fun k => !P k) n = n
  | 0 => rfl
  | n + 1 => by
    have := cnt_not P n
    simp only [cnt]
    by_cases hp : P n = true
    · simp [hp]; omega
    · simp [hp]; omega
def opn (S : Nat → Int32) (x : Int32) (k : Nat) : Bool := decide (¬ (x >>> (nI k &&& 31)) &&& 1 = 0 ∧ S (269 + 5 * k + 3) = -1)
def dnP (S : Nat → Int32) (k : Nat) : Bool := decide (0 ≤ S (269 + 5 * k + 3))
def sumI (f : Nat → Int32) : Nat → Int32
  | 0 => 0
  | n + 1 => sumI f n + f n

theorem b_108_0 {X : Nat × (Nat → Int32)} {d : Nat} {p : Nat → Nat} {sg : Mg} {Q : am_R → Prop} {B : Nat} {S : Nat → Int32} (hI : Inv B S) (hL : cwL 250 sg S) (hD : cwD 200 sg S) {x : Int32}
    (o1 : gW X (d) k_108 4 [some (vR 200), some (vI x), some (vI 0), some (vI 0)] [] p sg Q) :
    gW X (d) k_108 0 [some (vR 200), some (vI x), none, none] [] p sg Q := by
  have b0 := hI.b0; have b1 := hI.b1; have b2 := hI.b2; have b3 := hI.b3; have b4 := hI.b4; have b5 := hI.b5; have b6 := hI.b6; have b7 := hI.b7; have b8 := hI.b8; have b9 := hI.b9; have b14 := hI.b14
  refine g_pure 4 (i' := 4) (lv' := [some (vR 200), some (vI x), some (vI 0), some (vI 0)]) (st' := []) rfl ?_
  exact o1

theorem b_108_4 {X : Nat × (Nat → Int32)} {d : Nat} {p : Nat → Nat} {sg : Mg} {Q : am_R → Prop} {B : Nat} {S : Nat → Int32} (hI : Inv B S) (hL : cwL 250 sg S) (hD : cwD 200 sg S) {x : Int32} {t : Int32} {j : Nat} (u_j : j ≤ 8)
    (o1 : (sn S 5 ≤ j) → Q (gRv p sg t))
    (o2 : (¬ (sn S 5 ≤ j)) → (((x >>> (nI j &&& 31)) &&& 1) = 0) → gW X (d) k_108 4 [some (vR 200), some (vI x), some (vI t), some (vI (nI (j + 1)))] [] p sg Q)
    (o3 : (¬ (sn S 5 ≤ j)) → (¬ (((x >>> (nI j &&& 31)) &&& 1) = 0)) → (¬ S (269 + 5 * j + 3) = (-1)) → gW X (d) k_108 4 [some (vR 200), some (vI x), some (vI t), some (vI (nI (j + 1)))] [] p sg Q)
    (o4 : (¬ (sn S 5 ≤ j)) → (¬ (((x >>> (nI j &&& 31)) &&& 1) = 0)) → (S (269 + 5 * j + 3) = (-1)) → gW X (d) k_108 4 [some (vR 200), some (vI x), some (vI (t ||| (1 <<< (nI j &&& 31)))), some (vI (nI (j + 1)))] [] p sg Q) :
    gW X (d) k_108 4 [some (vR 200), some (vI x), some (vI t), some (vI (nI j))] [] p sg Q := by
  have b0 := hI.b0; have b1 := hI.b1; have b2 := hI.b2; have b3 := hI.b3; have b4 := hI.b4; have b5 := hI.b5; have b6 := hI.b6; have b7 := hI.b7; have b8 := hI.b8; have b9 := hI.b9; have b14 := hI.b14
  refine g_pure 5 (i' := 9) (lv' := [some (vR 200), some (vI x), some (vI t), some (vI (nI j))]) (st' := [vI 5, vR 203, vI (nI j)]) rfl ?_
  refine g_ald rfl (g_A (a := 203) (kd := 1) (n := 6) rfl (by decide)) (by decide) (show 5 = nI 5 from (show (5 : Int32) = nI 5 from rfl)) (by decide) (show _ = S 5 from (hD.cnt (by decide))) ?_
  refine g_if2 (i' := 32) (P := sn S 5 ≤ j) rfl rfl (g_geN (show nI j = nI j from (rfl : nI j = nI j)) (show S 5 = nI (sn S 5) from (hI.c5)) (by omega) (by omega)) (fun h1 => ?_) (fun h1 => ?_)
  · refine g_pure 1 (i' := 33) (lv' := [some (vR 200), some (vI x), some (vI t), some (vI (nI j))]) (st' := [vI t]) rfl ?_
    refine g_iret rfl ?_
    exact o1 h1
  · refine g_pure 5 (i' := 16) (lv' := [some (vR 200), some (vI x), some (vI t), some (vI (nI j))]) (st' := [vI ((x >>> (nI j &&& 31)) &&& 1)]) rfl ?_
    refine g_if1 (i' := 30) (P := ((x >>> (nI j &&& 31)) &&& 1) = 0) rfl rfl Iff.rfl (fun h2 => ?_) (fun h2 => ?_)
    · refine g_pure 2 (i' := 4) (lv' := [some (vR 200), some (vI x), some (vI t), some (vI (nI j + 1))]) (st' := []) rfl ?_
      refine gW_eq (lv' := [some (vR 200), some (vI x), some (vI t), some (vI (nI (j + 1)))]) (st' := []) (by rw [(show (nI j + 1) = nI (j + 1) from ((g_add (rfl : nI j = nI j) (show (1 : Int32) = nI 1 from rfl))).trans (congrArg nI (by omega)))]) rfl rfl ?_
      exact o2 h1 h2
    · refine g_pure 4 (i' := 21) (lv' := [some (vR 200), some (vI x), some (vI t), some (vI (nI j))]) (st' := [vI (nI j), vR 259]) rfl ?_
      refine g_ald rfl (g_A (a := 259) (kd := 1) (n := 8) rfl (by decide)) (by decide) (show nI j = nI j from (rfl : nI j = nI j)) (by omega) (show _ = S (269 + 5 * j + 3) from (hL.don 0 (by decide) (by omega))) ?_
      refine g_pure 1 (i' := 23) (lv' := [some (vR 200), some (vI x), some (vI t), some (vI (nI j))]) (st' := [vI (-1), vI (S (269 + 5 * j + 3))]) rfl ?_
      refine g_if2 (i' := 30) (P := ¬ S (269 + 5 * j + 3) = (-1)) rfl rfl Iff.rfl (fun h3 => ?_) (fun h3 => ?_)
      · refine g_pure 2 (i' := 4) (lv' := [some (vR 200), some (vI x), some (vI t), some (vI (nI j + 1))]) (st' := []) rfl ?_
        refine gW_eq (lv' := [some (vR 200), some (vI x), some (vI t), some (vI (nI (j + 1)))]) (st' := []) (by rw [(show (nI j + 1) = nI (j + 1) from ((g_add (rfl : nI j = nI j) (show (1 : Int32) = nI 1 from rfl))).trans (congrArg nI (by omega)))]) rfl rfl ?_
        exact o3 h1 h2 h3
      · have h3 := Classical.not_not.mp h3
        refine g_pure 8 (i' := 4) (lv' := [some (vR 200), some (vI x), some (vI (t ||| (1 <<< (nI j &&& 31)))), some (vI (nI j + 1))]) (st' := []) rfl ?_
        refine gW_eq (lv' := [some (vR 200), some (vI x), some (vI (t ||| (1 <<< (nI j &&& 31)))), some (vI (nI (j + 1)))]) (st' := []) (by rw [(show (nI j + 1) = nI (j + 1) from ((g_add (rfl : nI j = nI j) (show (1 : Int32) = nI 1 from rfl))).trans (congrArg nI (by omega)))]) rfl rfl ?_
        exact o4 h1 h2 h3

theorem l_108_4 {X : Nat × (Nat → Int32)} {d : Nat} {p : Nat → Nat} {sg : Mg} {Q : am_R → Prop} {B : Nat} {S : Nat → Int32} (hI : Inv B S) (hL : cwL 250 sg S) (hD : cwD 200 sg S) {x : Int32} 
    (x1 : Q (gRv p sg (nI (bset (opn S x) (sn S 5))))) :
    gW X (d) k_108 4 [some (vR 200), some (vI x), some (vI (nI (bset (opn S x) 0))), some (vI (nI 0))] [] p sg Q := by
  have b0 := hI.b0; have b1 := hI.b1; have b2 := hI.b2; have b3 := hI.b3; have b4 := hI.b4; have b5 := hI.b5; have b6 := hI.b6; have b7 := hI.b7; have b8 := hI.b8; have b9 := hI.b9; have b14 := hI.b14
  refine g_upI (P := fun j => gW X (d) k_108 4 [some (vR 200), some (vI x), some (vI (nI (bset (opn S x) j))), some (vI (nI j))] [] p sg Q) (I := fun j => True) (n := sn S 5) (a := 0) (by omega) trivial (fun j hj0 hj hi ih => ?_) (fun hi => ?_)
  · have ih : True → gW X (d) k_108 4 [some (vR 200), some (vI x), some (vI (nI (bset (opn S x) (j + 1)))), some (vI (nI (j + 1)))] [] p sg Q := ih
    exact b_108_4 hI hL hD (by omega) (fun h1 => by omega) (fun h1 h2 => by rw [show ((nI (bset (opn S x) j)) : Int32) = (nI (bset (opn S x) (j + 1))) from by simp [bset, opn, nI_orbit (show j < 32 by omega), *]]; exact ih trivial) (fun h1 h2 h3 => by rw [show ((nI (bset (opn S x) j)) : Int32) = (nI (bset (opn S x) (j + 1))) from by simp [bset, opn, nI_orbit (show j < 32 by omega), *]]; exact ih trivial) (fun h1 h2 h3 => by rw [show (((nI (bset (opn S x) j)) ||| (1 <<< (nI j &&& 31))) : Int32) = (nI (bset (opn S x) (j + 1))) from by simp [bset, opn, nI_orbit (show j < 32 by omega), *]]; exact ih trivial)
  · exact b_108_4 hI hL hD (by omega) (fun _ => x1) (fun h1 h2 => by omega) (fun h1 h2 h3 => by omega) (fun h1 h2 h3 => by omega)

theorem s_108 {X : Nat × (Nat → Int32)} {d : Nat} {p : Nat → Nat} {sg : Mg} {B : Nat} {S : Nat → Int32} (hI : Inv B S) (hL : cwL 250 sg S) (hD : cwD 200 sg S) {x : Int32} : gF X (d + 1) 108 [vR 200, vI x] p sg (fun r => r = gRv p sg (nI (bset (opn S x) (sn S 5)))) := g_in (cd := k_108) (nL := 4) (rc := 11) rfl (g_A (a := 200) (kd := 0) (n := 10) rfl (by decide)) (g_c1 rfl) (b_108_0 hI hL hD (l_108_4 hI hL hD rfl))
theorem opn_dn {B : Nat} {S : Nat → Int32} (hI : Inv B S) {k : Nat} (hk : k < sn S 5) : opn S (-1) k = !dnP S k := by
  have b5 := hI.b5
  have h1 : ∀ k, k < 8 → ¬ ((-1 : Int32) >>> (nI k &&& 31)) &&& 1 = 0 := by decide +kernel
  have h2 := h1 k (by omega)
  unfold opn dnP
  rcases (hI.tas hk).2.2.2 with h | h
  · simp [h2, h.1]
  · have h3 : 0 ≤ S (269 + 5 * k + 3) := by rw [h.1.1]; exact nI_pos' (by have := h.1.2; have := hI.b1; omega)
    have h4 : ¬ S (269 + 5 * k + 3) = -1 := fun h9 => by rw [h9] at h3; exact absurd h3 (by decide)
    simp [h2, h3, h4]
theorem opn_cnt {B : Nat} {S : Nat → Int32} (hI : Inv B S) : sn S 5 - cnt (opn S (-1)) (sn S 5) = cnt (dnP S) (sn S 5) := by
  have h := cnt_not (dnP S) (sn S 5)
  rw [cnt_ext (Q := fun k => !dnP S k) (fun k hk => opn_dn hI hk)]
  omega

theorem s_107r {X : Nat × (Nat → Int32)} {d : Nat} {p : Nat → Nat} {sg : Mg} {B : Nat} {S : Nat → Int32} (hI : Inv B S) (hL : cwL 250 sg S) (hD : cwD 200 sg S) : gF X (d + 2) 107 [vR 200] p sg (fun r => r = gRv p sg (S 5 - bcI (nI (bset (opn S (-1)) (sn S 5))))) := by
  have b0 := hI.b0; have b1 := hI.b1; have b2 := hI.b2; have b3 := hI.b3; have b4 := hI.b4; have b5 := hI.b5; have b6 := hI.b6; have b7 := hI.b7; have b8 := hI.b8; have b9 := hI.b9; have b14 := hI.b14
  refine g_in (cd := k_107) (nL := 1) (rc := 11) rfl (g_A (a := 200) (kd := 0) (n := 10) rfl (by decide)) (g_c1 rfl) ?_
  show gW X (d + 1) k_107 0 [some (vR 200)] [] p sg _
  refine g_pure 4 (i' := 4) (lv' := [some (vR 200)]) (st' := [vI 5, vR 203]) rfl ?_
  refine g_ald rfl (g_A (a := 203) (kd := 1) (n := 6) rfl (by decide)) (by decide) (show 5 = nI 5 from (show (5 : Int32) = nI 5 from rfl)) (by decide) (show _ = S 5 from (hD.cnt (by decide))) ?_
  refine g_pure 2 (i' := 7) (lv' := [some (vR 200)]) (st' := [vI (-1), vR 200, vI (S 5)]) rfl ?_
  refine g_cV1 rfl (args := [vR 200, vI (-1)]) (rest := [vI (S 5)]) rfl rfl rfl (s_108 (d := d) hI hL hD) ?_
  refine g_cS1 rfl (args := [vI (nI (bset (opn S (-1)) (sn S 5)))]) (rest := [vI (S 5)]) rfl rfl rfl (s_317 (d := d) ) ?_
  refine g_pure 1 (i' := 10) (lv' := [some (vR 200)]) (st' := [vI (S 5 - bcI (nI (bset (opn S (-1)) (sn S 5))))]) rfl ?_
  refine g_iret rfl ?_
  exact rfl

theorem s_107 {X : Nat × (Nat → Int32)} {d : Nat} {p : Nat → Nat} {sg : Mg} {B : Nat} {S : Nat → Int32} (hI : Inv B S) (hL : cwL 250 sg S) (hD : cwD 200 sg S) : gF X (d + 2) 107 [vR 200] p sg (fun r => r = gRv p sg (nI (cnt (dnP S) (sn S 5)))) := by
  have b5 := hI.b5
  refine gF_mono (s_107r hI hL hD) (fun r hr => hr.trans (congrArg (gRv p sg) ?_))
  have h := cnt_le (opn S (-1)) (sn S 5)
  rw [bcI_bset (by omega), hI.c5, g_sub rfl rfl h, opn_cnt hI]

theorem s_258r {X : Nat × (Nat → Int32)} {d : Nat} {p : Nat → Nat} {sg : Mg} {B : Nat} {S : Nat → Int32} (hI : Inv B S) (hS : sg 801 = S) {k : Nat} (u_k : k ≤ 7) (q1 : k < sn S 5) : gF X (d + 2) 258 [vR 800, vI (nI k)] p sg (fun r => r = gRv p sg (if ¬ (S (269 + 5 * k + 3) < 0) then 1 else 0)) := by
  have b0 := hI.b0; have b1 := hI.b1; have b2 := hI.b2; have b3 := hI.b3; have b4 := hI.b4; have b5 := hI.b5; have b6 := hI.b6; have b7 := hI.b7; have b8 := hI.b8; have b9 := hI.b9; have b14 := hI.b14
  refine g_in (cd := k_258) (nL := 2) (rc := 13) rfl (g_A (a := 800) (kd := 0) (n := 12) rfl (by decide)) (g_c1 rfl) ?_
  show gW X (d + 1) k_258 0 [some (vR 800), some (vI (nI k))] [] p sg _
  refine g_pure 3 (i' := 3) (lv' := [some (vR 800), some (vI (nI k))]) (st' := [vI 3, vI (nI k), vR 800]) rfl ?_
  refine gW_eq (st' := [vI (nI 3), vI (nI k), vR 800]) rfl (by rw [(show (3 : Int32) = nI 3 from rfl)]) rfl ?_
  refine g_cV1 rfl (args := [vR 800, vI (nI k), vI (nI 3)]) (rest := []) rfl rfl rfl (s_245 (d := d) hS (by omega) (by omega)) ?_
  refine g_if1 (i' := 7) (P := S (269 + 5 * k + 3) < 0) rfl rfl Iff.rfl (fun h1 => ?_) (fun h1 => ?_)
  · refine g_pure 1 (i' := 8) (lv' := [some (vR 800), some (vI (nI k))]) (st' := [vI 0]) rfl ?_
    refine g_bret rfl g_nar0 ?_
    exact (congrArg (gRv p sg) (if_neg (fun n9 => n9 h1)).symm)
  · refine g_pure 2 (i' := 8) (lv' := [some (vR 800), some (vI (nI k))]) (st' := [vI 1]) rfl ?_
    refine g_bret rfl g_nar1 ?_
    exact (congrArg (gRv p sg) (if_pos h1).symm)

theorem s_258 {X : Nat × (Nat → Int32)} {d : Nat} {p : Nat → Nat} {sg : Mg} {B : Nat} {S : Nat → Int32} (hI : Inv B S) (hS : sg 801 = S) {k : Nat} (hk : k < sn S 5) : gF X (d + 2) 258 [vR 800, vI (nI k)] p sg (fun r => r = gRv p sg (if dnP S k = true then 1 else 0)) := by
  have b5 := hI.b5
  refine gF_mono (s_258r hI hS (by omega) hk) (fun r hr => hr.trans (congrArg (gRv p sg) (g_ite ?_)))
  unfold dnP
  rw [decide_eq_true_iff]
  exact Int32.not_lt

theorem b_259_0 {X : Nat × (Nat → Int32)} {d : Nat} {p : Nat → Nat} {sg : Mg} {Q : am_R → Prop} {B : Nat} {S : Nat → Int32} (hI : Inv B S) (hS : sg 801 = S)
    (o1 : gW X (d + 2) k_259 4 [some (vR 800), some (vI 0), some (vI 0)] [] p sg Q) :
    gW X (d + 2) k_259 0 [some (vR 800), none, none] [] p sg Q := by
  have b0 := hI.b0; have b1 := hI.b1; have b2 := hI.b2; have b3 := hI.b3; have b4 := hI.b4; have b5 := hI.b5; have b6 := hI.b6; have b7 := hI.b7; have b8 := hI.b8; have b9 := hI.b9; have b14 := hI.b14
  refine g_pure 4 (i' := 4) (lv' := [some (vR 800), some (vI 0), some (vI 0)]) (st' := []) rfl ?_
  exact o1

theorem b_259_4 {X : Nat × (Nat → Int32)} {d : Nat} {p : Nat → Nat} {sg : Mg} {Q : am_R → Prop} {B : Nat} {S : Nat → Int32} (hI : Inv B S) (hS : sg 801 = S) {c : Nat} {j : Nat} (u_c : c ≤ 8) (u_j : j ≤ 8)
    (o1 : (sn S 5 ≤ j) → Q (gRv p sg (nI c)))
    (o2 : (¬ (sn S 5 ≤ j)) → (¬ (dnP S j = true)) → gW X (d + 2) k_259 4 [some (vR 800), some (vI (nI c)), some (vI (nI (j + 1)))] [] p sg Q)
    (o3 : (¬ (sn S 5 ≤ j)) → ((dnP S j = true)) → gW X (d + 2) k_259 4 [some (vR 800), some (vI (nI (c + 1))), some (vI (nI (j + 1)))] [] p sg Q) :
    gW X (d + 2) k_259 4 [some (vR 800), some (vI (nI c)), some (vI (nI j))] [] p sg Q := by
  have b0 := hI.b0; have b1 := hI.b1; have b2 := hI.b2; have b3 := hI.b3; have b4 := hI.b4; have b5 := hI.b5; have b6 := hI.b6; have b7 := hI.b7; have b8 := hI.b8; have b9 := hI.b9; have b14 := hI.b14
  refine g_pure 4 (i' := 8) (lv' := [some (vR 800), some (vI (nI c)), some (vI (nI j))]) (st' := [vI 5, vR 801, vI (nI j)]) rfl ?_
  refine g_ald rfl (g_A (a := 801) (kd := 1) (n := 2407) rfl (by decide)) (by decide) (show 5 = nI 5 from (show (5 : Int32) = nI 5 from rfl)) (by decide) (show _ = S 5 from (congrFun hS 5)) ?_
  refine g_if2 (i' := 22) (P := sn S 5 ≤ j) rfl rfl (g_geN (show nI j = nI j from (rfl : nI j = nI j)) (show S 5 = nI (sn S 5) from (hI.c5)) (by omega) (by omega)) (fun h1 => ?_) (fun h1 => ?_)
  · refine g_pure 1 (i' := 23) (lv' := [some (vR 800), some (vI (nI c)), some (vI (nI j))]) (st' := [vI (nI c)]) rfl ?_
    refine g_iret rfl ?_
    exact o1 h1
  · refine g_pure 3 (i' := 13) (lv' := [some (vR 800), some (vI (nI c)), some (vI (nI j))]) (st' := [vI (nI j), vR 800, vI (nI c)]) rfl ?_
    refine g_cV1 rfl (args := [vR 800, vI (nI j)]) (rest := [vI (nI c)]) rfl rfl rfl (s_258 (d := d) hI hS (by omega)) ?_
    refine g_if1 (i' := 17) (P := ¬ (dnP S j = true)) rfl rfl g_eqB (fun h2 => ?_) (fun h2 => ?_)
    · refine g_pure 5 (i' := 4) (lv' := [some (vR 800), some (vI (nI c + 0)), some (vI (nI j + 1))]) (st' := []) rfl ?_
      refine gW_eq (lv' := [some (vR 800), some (vI (nI c)), some (vI (nI (j + 1)))]) (st' := []) (by rw [(show (nI c + 0) = nI c from ((g_add (rfl : nI c = nI c) (show (0 : Int32) = nI 0 from rfl))).trans (congrArg nI (by omega))), (show (nI j + 1) = nI (j + 1) from ((g_add (rfl : nI j = nI j) (show (1 : Int32) = nI 1 from rfl))).trans (congrArg nI (by omega)))]) rfl rfl ?_
      exact o2 h1 h2
    · have h2 := Classical.not_not.mp h2
      refine g_pure 6 (i' := 4) (lv' := [some (vR 800), some (vI (nI c + 1)), some (vI (nI j + 1))]) (st' := []) rfl ?_
      refine gW_eq (lv' := [some (vR 800), some (vI (nI (c + 1))), some (vI (nI (j + 1)))]) (st' := []) (by rw [(show (nI c + 1) = nI (c + 1) from ((g_add (rfl : nI c = nI c) (show (1 : Int32) = nI 1 from rfl))).trans (congrArg nI (by omega))), (show (nI j + 1) = nI (j + 1) from ((g_add (rfl : nI j = nI j) (show (1 : Int32) = nI 1 from rfl))).trans (congrArg nI (by omega)))]) rfl rfl ?_
      exact o3 h1 h2

theorem l_259_4 {X : Nat × (Nat → Int32)} {d : Nat} {p : Nat → Nat} {sg : Mg} {Q : am_R → Prop} {B : Nat} {S : Nat → Int32} (hI : Inv B S) (hS : sg 801 = S)  
    (x1 : Q (gRv p sg (nI (cnt (dnP S) (sn S 5))))) :
    gW X (d + 2) k_259 4 [some (vR 800), some (vI (nI (cnt (dnP S) 0))), some (vI (nI 0))] [] p sg Q := by
  have b0 := hI.b0; have b1 := hI.b1; have b2 := hI.b2; have b3 := hI.b3; have b4 := hI.b4; have b5 := hI.b5; have b6 := hI.b6; have b7 := hI.b7; have b8 := hI.b8; have b9 := hI.b9; have b14 := hI.b14
  refine g_upI (P := fun j => gW X (d + 2) k_259 4 [some (vR 800), some (vI (nI (cnt (dnP S) j))), some (vI (nI j))] [] p sg Q) (I := fun j => True) (n := sn S 5) (a := 0) (by omega) trivial (fun j hj0 hj hi ih => ?_) (fun hi => ?_)
  · have ih : True → gW X (d + 2) k_259 4 [some (vR 800), some (vI (nI (cnt (dnP S) (j + 1)))), some (vI (nI (j + 1)))] [] p sg Q := ih
    have := cnt_le (dnP S) j
    exact b_259_4 hI hS (by omega) (by omega) (fun h1 => by omega) (fun h1 h2 => by rw [show ((nI (cnt (dnP S) j)) : Int32) = (nI (cnt (dnP S) (j + 1))) from by simp [cnt, *]]; exact ih trivial) (fun h1 h2 => by rw [show ((nI ((cnt (dnP S) j) + 1)) : Int32) = (nI (cnt (dnP S) (j + 1))) from by simp [cnt, *]]; exact ih trivial)
  · have := cnt_le (dnP S) (sn S 5)
    exact b_259_4 hI hS (by omega) (by omega) (fun _ => x1) (fun h1 h2 => by omega) (fun h1 h2 => by omega)

theorem s_259 {X : Nat × (Nat → Int32)} {d : Nat} {p : Nat → Nat} {sg : Mg} {B : Nat} {S : Nat → Int32} (hI : Inv B S) (hS : sg 801 = S) : gF X (d + 3) 259 [vR 800] p sg (fun r => r = gRv p sg (nI (cnt (dnP S) (sn S 5)))) := g_in (cd := k_259) (nL := 3) (rc := 13) rfl (g_A (a := 800) (kd := 0) (n := 12) rfl (by decide)) (g_c1 rfl) (b_259_0 hI hS (l_259_4 hI hS rfl))

theorem b_136_255 {X : Nat × (Nat → Int32)} {d : Nat} {p : Nat → Nat} {sg : Mg} {Q : am_R → Prop} {B : Nat} {S : Nat → Int32} (hI : Inv B S) (hL : cwL 250 sg S) (hD : cwD 200 sg S) {n : Nat} (u_n : n ≤ 8)
    (o1 : gW X (d) k_136 4 [some (vR 255), some (vI (nI n)), some (vI 0), some (vI 0)] [] p sg Q) :
    gW X (d) k_136 0 [some (vR 255), some (vI (nI n)), none, none] [] p sg Q := by
  have b0 := hI.b0; have b1 := hI.b1; have b2 := hI.b2; have b3 := hI.b3; have b4 := hI.b4; have b5 := hI.b5; have b6 := hI.b6; have b7 := hI.b7; have b8 := hI.b8; have b9 := hI.b9; have b14 := hI.b14
  refine g_pure 4 (i' := 4) (lv' := [some (vR 255), some (vI (nI n)), some (vI 0), some (vI 0)]) (st' := []) rfl ?_
  exact o1

theorem b_l_136_255 {X : Nat × (Nat → Int32)} {d : Nat} {p : Nat → Nat} {sg : Mg} {Q : am_R → Prop} {B : Nat} {S : Nat → Int32} (hI : Inv B S) (hL : cwL 250 sg S) (hD : cwD 200 sg S) {n : Nat} {t : Int32} {j : Nat} (u_n : n ≤ 8) (u_j : j ≤ 8)
    (o1 : (n ≤ j) → Q (gRv p sg t))
    (o2 : (¬ (n ≤ j)) → gW X (d) k_136 4 [some (vR 255), some (vI (nI n)), some (vI (t + S (113 + 6 * j + 3))), some (vI (nI (j + 1)))] [] p sg Q) :
    gW X (d) k_136 4 [some (vR 255), some (vI (nI n)), some (vI t), some (vI (nI j))] [] p sg Q := by
  have b0 := hI.b0; have b1 := hI.b1; have b2 := hI.b2; have b3 := hI.b3; have b4 := hI.b4; have b5 := hI.b5; have b6 := hI.b6; have b7 := hI.b7; have b8 := hI.b8; have b9 := hI.b9; have b14 := hI.b14
  refine g_pure 2 (i' := 6) (lv' := [some (vR 255), some (vI (nI n)), some (vI t), some (vI (nI j))]) (st' := [vI (nI n), vI (nI j)]) rfl ?_
  refine g_if2 (i' := 19) (P := n ≤ j) rfl rfl (g_geN (show nI j = nI j from (rfl : nI j = nI j)) (show nI n = nI n from (rfl : nI n = nI n)) (by omega) (by omega)) (fun h1 => ?_) (fun h1 => ?_)
  · refine g_pure 1 (i' := 20) (lv' := [some (vR 255), some (vI (nI n)), some (vI t), some (vI (nI j))]) (st' := [vI t]) rfl ?_
    refine g_iret rfl ?_
    exact o1 h1
  · refine g_pure 2 (i' := 9) (lv' := [some (vR 255), some (vI (nI n)), some (vI t), some (vI (nI j))]) (st' := [vR 255, vI (nI j)]) rfl ?_
    refine g_len rfl (by decide) (by decide) (g_A (a := 255) (kd := 1) (n := 8) rfl (by decide)) ?_
    refine gW_eq (lv' := [some (vR 255), some (vI (nI n)), some (vI t), some (vI (nI j))]) (st' := [vI 8, vI (nI j)]) rfl (by rw [(show (nI 8 : Int32) = 8 from rfl)]) rfl ?_
    refine g_if2 (i' := 19) (P := 8 ≤ j) rfl rfl (g_geN (show nI j = nI j from (rfl : nI j = nI j)) (show 8 = nI 8 from (show (8 : Int32) = nI 8 from rfl)) (by omega) (by omega)) (fun h2 => absurd h2 (by omega)) (fun _ => ?_)
    refine g_pure 3 (i' := 14) (lv' := [some (vR 255), some (vI (nI n)), some (vI t), some (vI (nI j))]) (st' := [vI (nI j), vR 255, vI t]) rfl ?_
    refine g_ald rfl (g_A (a := 255) (kd := 1) (n := 8) rfl (by decide)) (by decide) (show nI j = nI j from (rfl : nI j = nI j)) (by omega) (show _ = S (113 + 6 * j + 3) from (hL.per 3 (by decide) (by omega))) ?_
    refine g_pure 4 (i' := 4) (lv' := [some (vR 255), some (vI (nI n)), some (vI (t + S (113 + 6 * j + 3))), some (vI (nI j + 1))]) (st' := []) rfl ?_
    refine gW_eq (lv' := [some (vR 255), some (vI (nI n)), some (vI (t + S (113 + 6 * j + 3))), some (vI (nI (j + 1)))]) (st' := []) (by rw [(show (nI j + 1) = nI (j + 1) from ((g_add (rfl : nI j = nI j) (show (1 : Int32) = nI 1 from rfl))).trans (congrArg nI (by omega)))]) rfl rfl ?_
    exact o2 h1

theorem l_136_255 {X : Nat × (Nat → Int32)} {d : Nat} {p : Nat → Nat} {sg : Mg} {Q : am_R → Prop} {B : Nat} {S : Nat → Int32} (hI : Inv B S) (hL : cwL 250 sg S) (hD : cwD 200 sg S) {n : Nat} (u_n : n ≤ 8) 
    (x1 : Q (gRv p sg (sumI (fun j9 => S (113 + 6 * j9 + 3)) n))) :
    gW X (d) k_136 4 [some (vR 255), some (vI (nI n)), some (vI (sumI (fun j9 => S (113 + 6 * j9 + 3)) 0)), some (vI (nI 0))] [] p sg Q := by
  have b0 := hI.b0; have b1 := hI.b1; have b2 := hI.b2; have b3 := hI.b3; have b4 := hI.b4; have b5 := hI.b5; have b6 := hI.b6; have b7 := hI.b7; have b8 := hI.b8; have b9 := hI.b9; have b14 := hI.b14
  refine g_upI (P := fun j => gW X (d) k_136 4 [some (vR 255), some (vI (nI n)), some (vI (sumI (fun j9 => S (113 + 6 * j9 + 3)) j)), some (vI (nI j))] [] p sg Q) (I := fun j => True) (n := n) (a := 0) (by omega) trivial (fun j hj0 hj hi ih => ?_) (fun hi => ?_)
  · have ih : True → gW X (d) k_136 4 [some (vR 255), some (vI (nI n)), some (vI (sumI (fun j9 => S (113 + 6 * j9 + 3)) (j + 1))), some (vI (nI (j + 1)))] [] p sg Q := ih
    exact b_l_136_255 hI hL hD (by omega) (by omega) (fun h1 => by omega) (fun h1 => by rw [show (((sumI (fun j9 => S (113 + 6 * j9 + 3)) j) + S (113 + 6 * j + 3)) : Int32) = (sumI (fun j9 => S (113 + 6 * j9 + 3)) (j + 1)) from by rfl]; exact ih trivial)
  · exact b_l_136_255 hI hL hD (by omega) (by omega) (fun _ => x1) (fun h1 => by omega)

theorem s_136_255 {X : Nat × (Nat → Int32)} {d : Nat} {p : Nat → Nat} {sg : Mg} {B : Nat} {S : Nat → Int32} (hI : Inv B S) (hL : cwL 250 sg S) (hD : cwD 200 sg S) {n : Nat} (hn : n ≤ 8) : gF X (d + 1) 136 [vR 255, vI (nI n)] p sg (fun r => r = gRv p sg (sumI (fun j => S (113 + 6 * j + 3)) n)) := g_in (cd := k_136) (nL := 4) (rc := 0) rfl trivial (g_c1 rfl) (b_136_255 hI hL hD hn (l_136_255 hI hL hD hn rfl))

theorem b_136_258 {X : Nat × (Nat → Int32)} {d : Nat} {p : Nat → Nat} {sg : Mg} {Q : am_R → Prop} {B : Nat} {S : Nat → Int32} (hI : Inv B S) (hL : cwL 250 sg S) (hD : cwD 200 sg S) {n : Nat} (u_n : n ≤ 8)
    (o1 : gW X (d) k_136 4 [some (vR 258), some (vI (nI n)), some (vI 0), some (vI 0)] [] p sg Q) :
    gW X (d) k_136 0 [some (vR 258), some (vI (nI n)), none, none] [] p sg Q := by
  have b0 := hI.b0; have b1 := hI.b1; have b2 := hI.b2; have b3 := hI.b3; have b4 := hI.b4; have b5 := hI.b5; have b6 := hI.b6; have b7 := hI.b7; have b8 := hI.b8; have b9 := hI.b9; have b14 := hI.b14
  refine g_pure 4 (i' := 4) (lv' := [some (vR 258), some (vI (nI n)), some (vI 0), some (vI 0)]) (st' := []) rfl ?_
  exact o1

theorem b_l_136_258 {X : Nat × (Nat → Int32)} {d : Nat} {p : Nat → Nat} {sg : Mg} {Q : am_R → Prop} {B : Nat} {S : Nat → Int32} (hI : Inv B S) (hL : cwL 250 sg S) (hD : cwD 200 sg S) {n : Nat} {t : Int32} {j : Nat} (u_n : n ≤ 8) (u_j : j ≤ 8)
    (o1 : (n ≤ j) → Q (gRv p sg t))
    (o2 : (¬ (n ≤ j)) → gW X (d) k_136 4 [some (vR 258), some (vI (nI n)), some (vI (t + S (213 + 7 * j + 6))), some (vI (nI (j + 1)))] [] p sg Q) :
    gW X (d) k_136 4 [some (vR 258), some (vI (nI n)), some (vI t), some (vI (nI j))] [] p sg Q := by
  have b0 := hI.b0; have b1 := hI.b1; have b2 := hI.b2; have b3 := hI.b3; have b4 := hI.b4; have b5 := hI.b5; have b6 := hI.b6; have b7 := hI.b7; have b8 := hI.b8; have b9 := hI.b9; have b14 := hI.b14
  refine g_pure 2 (i' := 6) (lv' := [some (vR 258), some (vI (nI n)), some (vI t), some (vI (nI j))]) (st' := [vI (nI n), vI (nI j)]) rfl ?_
  refine g_if2 (i' := 19) (P := n ≤ j) rfl rfl (g_geN (show nI j = nI j from (rfl : nI j = nI j)) (show nI n = nI n from (rfl : nI n = nI n)) (by omega) (by omega)) (fun h1 => ?_) (fun h1 => ?_)
  · refine g_pure 1 (i' := 20) (lv' := [some (vR 258), some (vI (nI n)), some (vI t), some (vI (nI j))]) (st' := [vI t]) rfl ?_
    refine g_iret rfl ?_
    exact o1 h1
  · refine g_pure 2 (i' := 9) (lv' := [some (vR 258), some (vI (nI n)), some (vI t), some (vI (nI j))]) (st' := [vR 258, vI (nI j)]) rfl ?_
    refine g_len rfl (by decide) (by decide) (g_A (a := 258) (kd := 1) (n := 8) rfl (by decide)) ?_
    refine gW_eq (lv' := [some (vR 258), some (vI (nI n)), some (vI t), some (vI (nI j))]) (st' := [vI 8, vI (nI j)]) rfl (by rw [(show (nI 8 : Int32) = 8 from rfl)]) rfl ?_
    refine g_if2 (i' := 19) (P := 8 ≤ j) rfl rfl (g_geN (show nI j = nI j from (rfl : nI j = nI j)) (show 8 = nI 8 from (show (8 : Int32) = nI 8 from rfl)) (by omega) (by omega)) (fun h2 => absurd h2 (by omega)) (fun _ => ?_)
    refine g_pure 3 (i' := 14) (lv' := [some (vR 258), some (vI (nI n)), some (vI t), some (vI (nI j))]) (st' := [vI (nI j), vR 258, vI t]) rfl ?_
    refine g_ald rfl (g_A (a := 258) (kd := 1) (n := 8) rfl (by decide)) (by decide) (show nI j = nI j from (rfl : nI j = nI j)) (by omega) (show _ = S (213 + 7 * j + 6) from (hL.mis (by omega))) ?_
    refine g_pure 4 (i' := 4) (lv' := [some (vR 258), some (vI (nI n)), some (vI (t + S (213 + 7 * j + 6))), some (vI (nI j + 1))]) (st' := []) rfl ?_
    refine gW_eq (lv' := [some (vR 258), some (vI (nI n)), some (vI (t + S (213 + 7 * j + 6))), some (vI (nI (j + 1)))]) (st' := []) (by rw [(show (nI j + 1) = nI (j + 1) from ((g_add (rfl : nI j = nI j) (show (1 : Int32) = nI 1 from rfl))).trans (congrArg nI (by omega)))]) rfl rfl ?_
    exact o2 h1

theorem l_136_258 {X : Nat × (Nat → Int32)} {d : Nat} {p : Nat → Nat} {sg : Mg} {Q : am_R → Prop} {B : Nat} {S : Nat → Int32} (hI : Inv B S) (hL : cwL 250 sg S) (hD : cwD 200 sg S) {n : Nat} (u_n : n ≤ 8) 
    (x1 : Q (gRv p sg (sumI (fun j9 => S (213 + 7 * j9 + 6)) n))) :
    gW X (d) k_136 4 [some (vR 258), some (vI (nI n)), some (vI (sumI (fun j9 => S (213 + 7 * j9 + 6)) 0)), some (vI (nI 0))] [] p sg Q := by
  have b0 := hI.b0; have b1 := hI.b1; have b2 := hI.b2; have b3 := hI.b3; have b4 := hI.b4; have b5 := hI.b5; have b6 := hI.b6; have b7 := hI.b7; have b8 := hI.b8; have b9 := hI.b9; have b14 := hI.b14
  refine g_upI (P := fun j => gW X (d) k_136 4 [some (vR 258), some (vI (nI n)), some (vI (sumI (fun j9 => S (213 + 7 * j9 + 6)) j)), some (vI (nI j))] [] p sg Q) (I := fun j => True) (n := n) (a := 0) (by omega) trivial (fun j hj0 hj hi ih => ?_) (fun hi => ?_)
  · have ih : True → gW X (d) k_136 4 [some (vR 258), some (vI (nI n)), some (vI (sumI (fun j9 => S (213 + 7 * j9 + 6)) (j + 1))), some (vI (nI (j + 1)))] [] p sg Q := ih
    exact b_l_136_258 hI hL hD (by omega) (by omega) (fun h1 => by omega) (fun h1 => by rw [show (((sumI (fun j9 => S (213 + 7 * j9 + 6)) j) + S (213 + 7 * j + 6)) : Int32) = (sumI (fun j9 => S (213 + 7 * j9 + 6)) (j + 1)) from by rfl]; exact ih trivial)
  · exact b_l_136_258 hI hL hD (by omega) (by omega) (fun _ => x1) (fun h1 => by omega)

theorem s_136_258 {X : Nat × (Nat → Int32)} {d : Nat} {p : Nat → Nat} {sg : Mg} {B : Nat} {S : Nat → Int32} (hI : Inv B S) (hL : cwL 250 sg S) (hD : cwD 200 sg S) {n : Nat} (hn : n ≤ 8) : gF X (d + 1) 136 [vR 258, vI (nI n)] p sg (fun r => r = gRv p sg (sumI (fun j => S (213 + 7 * j + 6)) n)) := g_in (cd := k_136) (nL := 4) (rc := 0) rfl trivial (g_c1 rfl) (b_136_258 hI hL hD hn (l_136_258 hI hL hD hn rfl))

theorem s_128 {X : Nat × (Nat → Int32)} {d : Nat} {p : Nat → Nat} {sg : Mg} : gF X (d + 1) 128 [vR 0] p sg (fun r => r = gRv p sg (sg 1 5)) := by
  refine g_in (cd := k_128) (nL := 1) (rc := 12) rfl (g_A (a := 0) (kd := 0) (n := 11) rfl (by decide)) (g_c1 rfl) ?_
  show gW X (d) k_128 0 [some (vR 0)] [] p sg _
  refine g_pure 3 (i' := 3) (lv' := [some (vR 0)]) (st' := [vI (sg 1 5)]) rfl ?_
  refine g_iret rfl ?_
  exact rfl

def countV (S : Nat → Int32) (ln rm x : Int32) : Int32 := if okx x 6 then S x.toNatClampNeg else if x = 6 then S 6 else if x = 7 then ln else if x = 8 then S 8 else if x = 9 then S 9 else if x = 10 then S 10 else if x = 11 then sumI (fun j => S (113 + 6 * j + 3)) (sn S 1) else if x = 12 then S 11 else if x = 13 then S 12 else if x = 14 then S 13 else if x = 15 then sumI (fun j => S (213 + 7 * j + 6)) (sn S 4) else if x = 16 then nI (cnt (dnP S) (sn S 5)) else if x = 17 then S 14 else if x = 18 then S 15 else if x = 19 then rm else -1
theorem countV_out {S : Nat → Int32} {ln rm x : Int32} (h6 : ¬ okx x 6) (h : ¬ (¬ (x < 6) ∧ ¬ (19 < x))) : countV S ln rm x = -1 := by
  have hh : ∀ k, 6 ≤ k → k ≤ 19 → ¬ x = nI k := by
    intro k h1 h2 e
    subst e
    exact h ⟨nI_nlt (b := 6) (by omega) (by omega), nI_nlt (a := 19) (by omega) (by omega)⟩
  unfold countV
  rw [if_neg h6, if_neg (show ¬ x = 6 from hh 6 (by omega) (by omega)), if_neg (show ¬ x = 7 from hh 7 (by omega) (by omega)), if_neg (show ¬ x = 8 from hh 8 (by omega) (by omega)), if_neg (show ¬ x = 9 from hh 9 (by omega) (by omega)), if_neg (show ¬ x = 10 from hh 10 (by omega) (by omega)), if_neg (show ¬ x = 11 from hh 11 (by omega) (by omega)), if_neg (show ¬ x = 12 from hh 12 (by omega) (by omega)), if_neg (show ¬ x = 13 from hh 13 (by omega) (by omega)), if_neg (show ¬ x = 14 from hh 14 (by omega) (by omega)), if_neg (show ¬ x = 15 from hh 15 (by omega) (by omega)), if_neg (show ¬ x = 16 from hh 16 (by omega) (by omega)), if_neg (show ¬ x = 17 from hh 17 (by omega) (by omega)), if_neg (show ¬ x = 18 from hh 18 (by omega) (by omega)), if_neg (show ¬ x = 19 from hh 19 (by omega) (by omega))]
theorem countV_neg {S : Nat → Int32} {ln rm x : Int32} (h : x < 0) : countV S ln rm x = -1 := countV_out (fun h9 => h9.1 h) (fun h9 => h9.1 (Int32.lt_trans h (by decide)))
theorem countV_in {S : Nat → Int32} {ln rm : Int32} {k : Nat} (h : k < 6) : countV S ln rm (nI k) = S k := by
  unfold countV
  rw [if_pos ((okx_nI (by omega)).mpr h), nI_clamp (by omega)]

theorem b_135_0 {X : Nat × (Nat → Int32)} {d : Nat} {p : Nat → Nat} {sg : Mg} {Q : am_R → Prop} {B : Nat} {S : Nat → Int32} (hI : Inv B S) (hL : cwL 250 sg S) (hD : cwD 200 sg S) {x : Int32}
    (o1 : (x < 0) → x = nI 6 → Q (gRv p sg (S 6)))
    (o2 : (x < 0) → x = nI 7 → Q (gRv p sg (sg 208 6)))
    (o3 : (x < 0) → x = nI 8 → Q (gRv p sg (S 8)))
    (o4 : (x < 0) → x = nI 9 → Q (gRv p sg (S 9)))
    (o5 : (x < 0) → x = nI 10 → Q (gRv p sg (S 10)))
    (o6 : (x < 0) → x = nI 11 → Q (gRv p sg (sumI (fun j => S (113 + 6 * j + 3)) (sn S 1))))
    (o7 : (x < 0) → x = nI 12 → Q (gRv p sg (S 11)))
    (o8 : (x < 0) → x = nI 13 → Q (gRv p sg (S 12)))
    (o9 : (x < 0) → x = nI 14 → Q (gRv p sg (S 13)))
    (o10 : (x < 0) → x = nI 15 → Q (gRv p sg (sumI (fun j => S (213 + 7 * j + 6)) (sn S 4))))
    (o11 : (x < 0) → x = nI 16 → Q (gRv p sg (nI (cnt (dnP S) (sn S 5)))))
    (o12 : (x < 0) → x = nI 17 → Q (gRv p sg (S 14)))
    (o13 : (x < 0) → x = nI 18 → Q (gRv p sg (S 15)))
    (o14 : (x < 0) → x = nI 19 → Q (gRv p sg (sg 0 11)))
    (o15 : (x < 0) → (¬ (¬ (x < 6) ∧ ¬ (19 < x))) → Q (gRv p sg (-1)))
    (o16 : (¬ (x < 0)) → (6 ≤ x) → x = nI 6 → Q (gRv p sg (S 6)))
    (o17 : (¬ (x < 0)) → (6 ≤ x) → x = nI 7 → Q (gRv p sg (sg 208 6)))
    (o18 : (¬ (x < 0)) → (6 ≤ x) → x = nI 8 → Q (gRv p sg (S 8)))
    (o19 : (¬ (x < 0)) → (6 ≤ x) → x = nI 9 → Q (gRv p sg (S 9)))
    (o20 : (¬ (x < 0)) → (6 ≤ x) → x = nI 10 → Q (gRv p sg (S 10)))
    (o21 : (¬ (x < 0)) → (6 ≤ x) → x = nI 11 → Q (gRv p sg (sumI (fun j => S (113 + 6 * j + 3)) (sn S 1))))
    (o22 : (¬ (x < 0)) → (6 ≤ x) → x = nI 12 → Q (gRv p sg (S 11)))
    (o23 : (¬ (x < 0)) → (6 ≤ x) → x = nI 13 → Q (gRv p sg (S 12)))
    (o24 : (¬ (x < 0)) → (6 ≤ x) → x = nI 14 → Q (gRv p sg (S 13)))
    (o25 : (¬ (x < 0)) → (6 ≤ x) → x = nI 15 → Q (gRv p sg (sumI (fun j => S (213 + 7 * j + 6)) (sn S 4))))
    (o26 : (¬ (x < 0)) → (6 ≤ x) → x = nI 16 → Q (gRv p sg (nI (cnt (dnP S) (sn S 5)))))
    (o27 : (¬ (x < 0)) → (6 ≤ x) → x = nI 17 → Q (gRv p sg (S 14)))
    (o28 : (¬ (x < 0)) → (6 ≤ x) → x = nI 18 → Q (gRv p sg (S 15)))
    (o29 : (¬ (x < 0)) → (6 ≤ x) → x = nI 19 → Q (gRv p sg (sg 0 11)))
    (o30 : (¬ (x < 0)) → (6 ≤ x) → (¬ (¬ (x < 6) ∧ ¬ (19 < x))) → Q (gRv p sg (-1)))
    (o31 : (¬ (x < 0)) → (¬ (6 ≤ x)) → ∃ k, x = nI k ∧ k < 6)
    (o32 : (¬ (x < 0)) → (¬ (6 ≤ x)) → ∀ k9 : Nat, x = nI k9 → k9 < 6 → Q (gRv p sg (S k9))) :
    gW X (d + 3) k_135 0 [some (vR 0), some (vI x)] [] p sg Q := by
  have b0 := hI.b0; have b1 := hI.b1; have b2 := hI.b2; have b3 := hI.b3; have b4 := hI.b4; have b5 := hI.b5; have b6 := hI.b6; have b7 := hI.b7; have b8 := hI.b8; have b9 := hI.b9; have b14 := hI.b14
  refine g_pure 1 (i' := 1) (lv' := [some (vR 0), some (vI x)]) (st' := [vI x]) rfl ?_
  refine g_if1 (i' := 12) (P := x < 0) rfl rfl Iff.rfl (fun h1 => ?_) (fun h1 => ?_)
  · refine g_pure 1 (i' := 13) (lv' := [some (vR 0), some (vI x)]) (st' := [vI x]) rfl ?_
    by_cases h2 : (¬ (x < 6) ∧ ¬ (19 < x))
    · obtain ⟨n3, ln3, en3⟩ := okr_of (lo := 6) (hi := 19) (by decide) h2
      rcases (show n3 = 6 ∨ n3 = 7 ∨ n3 = 8 ∨ n3 = 9 ∨ n3 = 10 ∨ n3 = 11 ∨ n3 = 12 ∨ n3 = 13 ∨ n3 = 14 ∨ n3 = 15 ∨ n3 = 16 ∨ n3 = 17 ∨ n3 = 18 ∨ n3 = 19 by omega) with rfl | rfl | rfl | rfl | rfl | rfl | rfl | rfl | rfl | rfl | rfl | rfl | rfl | rfl
      · subst en3
        refine g_swK (i' := 14) (k := 6) rfl rfl (by decide) rfl ?_
        refine g_pure 3 (i' := 17) (lv' := [some (vR 0), some (vI (nI 6))]) (st' := [vR 202]) rfl ?_
        refine gW_eq (lv' := [some (vR 0), some (vI 6)]) (st' := [vR 202]) (by rw [(show (nI 6 : Int32) = 6 from rfl)]) rfl rfl ?_
        refine g_getI rfl (g_A (a := 202) (kd := 0) (n := 3) rfl (by decide)) (show _ = S 6 from hD.f8) ?_
        refine g_iret rfl ?_
        exact o1 h1 rfl
      · subst en3
        refine g_swK (i' := 19) (k := 7) rfl rfl (by decide) rfl ?_
        refine g_pure 4 (i' := 23) (lv' := [some (vR 0), some (vI (nI 7))]) (st' := [vI (sg 208 6)]) rfl ?_
        refine g_iret rfl ?_
        exact o2 h1 rfl
      · subst en3
        refine g_swK (i' := 24) (k := 8) rfl rfl (by decide) rfl ?_
        refine g_pure 3 (i' := 27) (lv' := [some (vR 0), some (vI (nI 8))]) (st' := [vR 250]) rfl ?_
        refine gW_eq (lv' := [some (vR 0), some (vI 8)]) (st' := [vR 250]) (by rw [(show (nI 8 : Int32) = 8 from rfl)]) rfl rfl ?_
        refine g_getI rfl (g_A (a := 250) (kd := 0) (n := 6) rfl (by decide)) (show _ = S 8 from hL.f12) ?_
        refine g_iret rfl ?_
        exact o3 h1 rfl
      · subst en3
        refine g_swK (i' := 29) (k := 9) rfl rfl (by decide) rfl ?_
        refine g_pure 3 (i' := 32) (lv' := [some (vR 0), some (vI (nI 9))]) (st' := [vR 202]) rfl ?_
        refine gW_eq (lv' := [some (vR 0), some (vI 9)]) (st' := [vR 202]) (by rw [(show (nI 9 : Int32) = 9 from rfl)]) rfl rfl ?_
        refine g_getI rfl (g_A (a := 202) (kd := 0) (n := 3) rfl (by decide)) (show _ = S 9 from hD.f5) ?_
        refine g_iret rfl ?_
        exact o4 h1 rfl
      · subst en3
        refine g_swK (i' := 34) (k := 10) rfl rfl (by decide) rfl ?_
        refine g_pure 3 (i' := 37) (lv' := [some (vR 0), some (vI (nI 10))]) (st' := [vR 202]) rfl ?_
        refine gW_eq (lv' := [some (vR 0), some (vI 10)]) (st' := [vR 202]) (by rw [(show (nI 10 : Int32) = 10 from rfl)]) rfl rfl ?_
        refine g_getI rfl (g_A (a := 202) (kd := 0) (n := 3) rfl (by decide)) (show _ = S 10 from hD.f6) ?_
        refine g_iret rfl ?_
        exact o5 h1 rfl
      · subst en3
        refine g_swK (i' := 39) (k := 11) rfl rfl (by decide) rfl ?_
        refine g_pure 9 (i' := 48) (lv' := [some (vR 0), some (vI (nI 11))]) (st' := [vI 1, vR 203, vR 255]) rfl ?_
        refine gW_eq (lv' := [some (vR 0), some (vI 11)]) (st' := [vI 1, vR 203, vR 255]) (by rw [(show (nI 11 : Int32) = 11 from rfl)]) rfl rfl ?_
        refine g_ald rfl (g_A (a := 203) (kd := 1) (n := 6) rfl (by decide)) (by decide) (show 1 = nI 1 from (show (1 : Int32) = nI 1 from rfl)) (by decide) (show _ = S 1 from (hD.cnt (by decide))) ?_
        refine gW_eq (st' := [vI (nI (sn S 1)), vR 255]) rfl (by rw [(show S 1 = nI (sn S 1) from (hI.c1))]) rfl ?_
        refine g_cS1 rfl (args := [vR 255, vI (nI (sn S 1))]) (rest := []) rfl rfl rfl (s_136_255 (d := d + 2) hI hL hD (by omega)) ?_
        refine g_iret rfl ?_
        exact o6 h1 rfl
      · subst en3
        refine g_swK (i' := 51) (k := 12) rfl rfl (by decide) rfl ?_
        refine g_pure 3 (i' := 54) (lv' := [some (vR 0), some (vI (nI 12))]) (st' := [vR 202]) rfl ?_
        refine gW_eq (lv' := [some (vR 0), some (vI 12)]) (st' := [vR 202]) (by rw [(show (nI 12 : Int32) = 12 from rfl)]) rfl rfl ?_
        refine g_getI rfl (g_A (a := 202) (kd := 0) (n := 3) rfl (by decide)) (show _ = S 11 from hD.f9) ?_
        refine g_iret rfl ?_
        exact o7 h1 rfl
      · subst en3
        refine g_swK (i' := 56) (k := 13) rfl rfl (by decide) rfl ?_
        refine g_pure 3 (i' := 59) (lv' := [some (vR 0), some (vI (nI 13))]) (st' := [vR 250]) rfl ?_
        refine gW_eq (lv' := [some (vR 0), some (vI 13)]) (st' := [vR 250]) (by rw [(show (nI 13 : Int32) = 13 from rfl)]) rfl rfl ?_
        refine g_getI rfl (g_A (a := 250) (kd := 0) (n := 6) rfl (by decide)) (show _ = S 12 from hL.f14) ?_
        refine g_iret rfl ?_
        exact o8 h1 rfl
      · subst en3
        refine g_swK (i' := 61) (k := 14) rfl rfl (by decide) rfl ?_
        refine g_pure 3 (i' := 64) (lv' := [some (vR 0), some (vI (nI 14))]) (st' := [vR 250]) rfl ?_
        refine gW_eq (lv' := [some (vR 0), some (vI 14)]) (st' := [vR 250]) (by rw [(show (nI 14 : Int32) = 14 from rfl)]) rfl rfl ?_
        refine g_getI rfl (g_A (a := 250) (kd := 0) (n := 6) rfl (by decide)) (show _ = S 13 from hL.f15) ?_
        refine g_iret rfl ?_
        exact o9 h1 rfl
      · subst en3
        refine g_swK (i' := 66) (k := 15) rfl rfl (by decide) rfl ?_
        refine g_pure 9 (i' := 75) (lv' := [some (vR 0), some (vI (nI 15))]) (st' := [vI 4, vR 203, vR 258]) rfl ?_
        refine gW_eq (lv' := [some (vR 0), some (vI 15)]) (st' := [vI 4, vR 203, vR 258]) (by rw [(show (nI 15 : Int32) = 15 from rfl)]) rfl rfl ?_
        refine g_ald rfl (g_A (a := 203) (kd := 1) (n := 6) rfl (by decide)) (by decide) (show 4 = nI 4 from (show (4 : Int32) = nI 4 from rfl)) (by decide) (show _ = S 4 from (hD.cnt (by decide))) ?_
        refine gW_eq (st' := [vI (nI (sn S 4)), vR 258]) rfl (by rw [(show S 4 = nI (sn S 4) from (hI.c4))]) rfl ?_
        refine g_cS1 rfl (args := [vR 258, vI (nI (sn S 4))]) (rest := []) rfl rfl rfl (s_136_258 (d := d + 2) hI hL hD (by omega)) ?_
        refine g_iret rfl ?_
        exact o10 h1 rfl
      · subst en3
        refine g_swK (i' := 78) (k := 16) rfl rfl (by decide) rfl ?_
        refine g_pure 2 (i' := 80) (lv' := [some (vR 0), some (vI (nI 16))]) (st' := [vR 200]) rfl ?_
        refine gW_eq (lv' := [some (vR 0), some (vI 16)]) (st' := [vR 200]) (by rw [(show (nI 16 : Int32) = 16 from rfl)]) rfl rfl ?_
        refine g_cV1 rfl (args := [vR 200]) (rest := []) rfl rfl rfl (s_107 (d := d + 1) hI hL hD) ?_
        have t4 := cnt_le (dnP S) (sn S 5)
        refine g_iret rfl ?_
        exact o11 h1 rfl
      · subst en3
        refine g_swK (i' := 82) (k := 17) rfl rfl (by decide) rfl ?_
        refine g_pure 3 (i' := 85) (lv' := [some (vR 0), some (vI (nI 17))]) (st' := [vR 250]) rfl ?_
        refine gW_eq (lv' := [some (vR 0), some (vI 17)]) (st' := [vR 250]) (by rw [(show (nI 17 : Int32) = 17 from rfl)]) rfl rfl ?_
        refine g_getI rfl (g_A (a := 250) (kd := 0) (n := 6) rfl (by decide)) (show _ = S 14 from hL.f11) ?_
        refine g_iret rfl ?_
        exact o12 h1 rfl
      · subst en3
        refine g_swK (i' := 87) (k := 18) rfl rfl (by decide) rfl ?_
        refine g_pure 3 (i' := 90) (lv' := [some (vR 0), some (vI (nI 18))]) (st' := [vR 202]) rfl ?_
        refine gW_eq (lv' := [some (vR 0), some (vI 18)]) (st' := [vR 202]) (by rw [(show (nI 18 : Int32) = 18 from rfl)]) rfl rfl ?_
        refine g_getI rfl (g_A (a := 202) (kd := 0) (n := 3) rfl (by decide)) (show _ = S 15 from hD.f7) ?_
        refine g_iret rfl ?_
        exact o13 h1 rfl
      · subst en3
        refine g_swK (i' := 92) (k := 19) rfl rfl (by decide) rfl ?_
        refine g_pure 2 (i' := 94) (lv' := [some (vR 0), some (vI (nI 19))]) (st' := [vI (sg 0 11)]) rfl ?_
        refine g_iret rfl ?_
        exact o14 h1 rfl
    · refine g_swD (i' := 95) rfl (okr_out (lo := 6) (hi := 19) (by decide) h2) rfl ?_
      refine g_pure 1 (i' := 96) (lv' := [some (vR 0), some (vI x)]) (st' := [vI (-1)]) rfl ?_
      refine g_iret rfl ?_
      exact o15 h1 h2
  · refine g_pure 2 (i' := 4) (lv' := [some (vR 0), some (vI x)]) (st' := [vI 6, vI x]) rfl ?_
    refine g_if2 (i' := 12) (P := 6 ≤ x) rfl rfl Iff.rfl (fun h5 => ?_) (fun h5 => ?_)
    · refine g_pure 1 (i' := 13) (lv' := [some (vR 0), some (vI x)]) (st' := [vI x]) rfl ?_
      by_cases h6 : (¬ (x < 6) ∧ ¬ (19 < x))
      · obtain ⟨n7, ln7, en7⟩ := okr_of (lo := 6) (hi := 19) (by decide) h6
        rcases (show n7 = 6 ∨ n7 = 7 ∨ n7 = 8 ∨ n7 = 9 ∨ n7 = 10 ∨ n7 = 11 ∨ n7 = 12 ∨ n7 = 13 ∨ n7 = 14 ∨ n7 = 15 ∨ n7 = 16 ∨ n7 = 17 ∨ n7 = 18 ∨ n7 = 19 by omega) with rfl | rfl | rfl | rfl | rfl | rfl | rfl | rfl | rfl | rfl | rfl | rfl | rfl | rfl
        · subst en7
          refine g_swK (i' := 14) (k := 6) rfl rfl (by decide) rfl ?_
          refine g_pure 3 (i' := 17) (lv' := [some (vR 0), some (vI (nI 6))]) (st' := [vR 202]) rfl ?_
          refine gW_eq (lv' := [some (vR 0), some (vI 6)]) (st' := [vR 202]) (by rw [(show (nI 6 : Int32) = 6 from rfl)]) rfl rfl ?_
          refine g_getI rfl (g_A (a := 202) (kd := 0) (n := 3) rfl (by decide)) (show _ = S 6 from hD.f8) ?_
          refine g_iret rfl ?_
          exact o16 h1 h5 rfl
        · subst en7
          refine g_swK (i' := 19) (k := 7) rfl rfl (by decide) rfl ?_
          refine g_pure 4 (i' := 23) (lv' := [some (vR 0), some (vI (nI 7))]) (st' := [vI (sg 208 6)]) rfl ?_
          refine g_iret rfl ?_
          exact o17 h1 h5 rfl
        · subst en7
          refine g_swK (i' := 24) (k := 8) rfl rfl (by decide) rfl ?_
          refine g_pure 3 (i' := 27) (lv' := [some (vR 0), some (vI (nI 8))]) (st' := [vR 250]) rfl ?_
          refine gW_eq (lv' := [some (vR 0), some (vI 8)]) (st' := [vR 250]) (by rw [(show (nI 8 : Int32) = 8 from rfl)]) rfl rfl ?_
          refine g_getI rfl (g_A (a := 250) (kd := 0) (n := 6) rfl (by decide)) (show _ = S 8 from hL.f12) ?_
          refine g_iret rfl ?_
          exact o18 h1 h5 rfl
        · subst en7
          refine g_swK (i' := 29) (k := 9) rfl rfl (by decide) rfl ?_
          refine g_pure 3 (i' := 32) (lv' := [some (vR 0), some (vI (nI 9))]) (st' := [vR 202]) rfl ?_
          refine gW_eq (lv' := [some (vR 0), some (vI 9)]) (st' := [vR 202]) (by rw [(show (nI 9 : Int32) = 9 from rfl)]) rfl rfl ?_
          refine g_getI rfl (g_A (a := 202) (kd := 0) (n := 3) rfl (by decide)) (show _ = S 9 from hD.f5) ?_
          refine g_iret rfl ?_
          exact o19 h1 h5 rfl
        · subst en7
          refine g_swK (i' := 34) (k := 10) rfl rfl (by decide) rfl ?_
          refine g_pure 3 (i' := 37) (lv' := [some (vR 0), some (vI (nI 10))]) (st' := [vR 202]) rfl ?_
          refine gW_eq (lv' := [some (vR 0), some (vI 10)]) (st' := [vR 202]) (by rw [(show (nI 10 : Int32) = 10 from rfl)]) rfl rfl ?_
          refine g_getI rfl (g_A (a := 202) (kd := 0) (n := 3) rfl (by decide)) (show _ = S 10 from hD.f6) ?_
          refine g_iret rfl ?_
          exact o20 h1 h5 rfl
        · subst en7
          refine g_swK (i' := 39) (k := 11) rfl rfl (by decide) rfl ?_
          refine g_pure 9 (i' := 48) (lv' := [some (vR 0), some (vI (nI 11))]) (st' := [vI 1, vR 203, vR 255]) rfl ?_
          refine gW_eq (lv' := [some (vR 0), some (vI 11)]) (st' := [vI 1, vR 203, vR 255]) (by rw [(show (nI 11 : Int32) = 11 from rfl)]) rfl rfl ?_
          refine g_ald rfl (g_A (a := 203) (kd := 1) (n := 6) rfl (by decide)) (by decide) (show 1 = nI 1 from (show (1 : Int32) = nI 1 from rfl)) (by decide) (show _ = S 1 from (hD.cnt (by decide))) ?_
          refine gW_eq (st' := [vI (nI (sn S 1)), vR 255]) rfl (by rw [(show S 1 = nI (sn S 1) from (hI.c1))]) rfl ?_
          refine g_cS1 rfl (args := [vR 255, vI (nI (sn S 1))]) (rest := []) rfl rfl rfl (s_136_255 (d := d + 2) hI hL hD (by omega)) ?_
          refine g_iret rfl ?_
          exact o21 h1 h5 rfl
        · subst en7
          refine g_swK (i' := 51) (k := 12) rfl rfl (by decide) rfl ?_
          refine g_pure 3 (i' := 54) (lv' := [some (vR 0), some (vI (nI 12))]) (st' := [vR 202]) rfl ?_
          refine gW_eq (lv' := [some (vR 0), some (vI 12)]) (st' := [vR 202]) (by rw [(show (nI 12 : Int32) = 12 from rfl)]) rfl rfl ?_
          refine g_getI rfl (g_A (a := 202) (kd := 0) (n := 3) rfl (by decide)) (show _ = S 11 from hD.f9) ?_
          refine g_iret rfl ?_
          exact o22 h1 h5 rfl
        · subst en7
          refine g_swK (i' := 56) (k := 13) rfl rfl (by decide) rfl ?_
          refine g_pure 3 (i' := 59) (lv' := [some (vR 0), some (vI (nI 13))]) (st' := [vR 250]) rfl ?_
          refine gW_eq (lv' := [some (vR 0), some (vI 13)]) (st' := [vR 250]) (by rw [(show (nI 13 : Int32) = 13 from rfl)]) rfl rfl ?_
          refine g_getI rfl (g_A (a := 250) (kd := 0) (n := 6) rfl (by decide)) (show _ = S 12 from hL.f14) ?_
          refine g_iret rfl ?_
          exact o23 h1 h5 rfl
        · subst en7
          refine g_swK (i' := 61) (k := 14) rfl rfl (by decide) rfl ?_
          refine g_pure 3 (i' := 64) (lv' := [some (vR 0), some (vI (nI 14))]) (st' := [vR 250]) rfl ?_
          refine gW_eq (lv' := [some (vR 0), some (vI 14)]) (st' := [vR 250]) (by rw [(show (nI 14 : Int32) = 14 from rfl)]) rfl rfl ?_
          refine g_getI rfl (g_A (a := 250) (kd := 0) (n := 6) rfl (by decide)) (show _ = S 13 from hL.f15) ?_
          refine g_iret rfl ?_
          exact o24 h1 h5 rfl
        · subst en7
          refine g_swK (i' := 66) (k := 15) rfl rfl (by decide) rfl ?_
          refine g_pure 9 (i' := 75) (lv' := [some (vR 0), some (vI (nI 15))]) (st' := [vI 4, vR 203, vR 258]) rfl ?_
          refine gW_eq (lv' := [some (vR 0), some (vI 15)]) (st' := [vI 4, vR 203, vR 258]) (by rw [(show (nI 15 : Int32) = 15 from rfl)]) rfl rfl ?_
          refine g_ald rfl (g_A (a := 203) (kd := 1) (n := 6) rfl (by decide)) (by decide) (show 4 = nI 4 from (show (4 : Int32) = nI 4 from rfl)) (by decide) (show _ = S 4 from (hD.cnt (by decide))) ?_
          refine gW_eq (st' := [vI (nI (sn S 4)), vR 258]) rfl (by rw [(show S 4 = nI (sn S 4) from (hI.c4))]) rfl ?_
          refine g_cS1 rfl (args := [vR 258, vI (nI (sn S 4))]) (rest := []) rfl rfl rfl (s_136_258 (d := d + 2) hI hL hD (by omega)) ?_
          refine g_iret rfl ?_
          exact o25 h1 h5 rfl
        · subst en7
          refine g_swK (i' := 78) (k := 16) rfl rfl (by decide) rfl ?_
          refine g_pure 2 (i' := 80) (lv' := [some (vR 0), some (vI (nI 16))]) (st' := [vR 200]) rfl ?_
          refine gW_eq (lv' := [some (vR 0), some (vI 16)]) (st' := [vR 200]) (by rw [(show (nI 16 : Int32) = 16 from rfl)]) rfl rfl ?_
          refine g_cV1 rfl (args := [vR 200]) (rest := []) rfl rfl rfl (s_107 (d := d + 1) hI hL hD) ?_
          have t8 := cnt_le (dnP S) (sn S 5)
          refine g_iret rfl ?_
          exact o26 h1 h5 rfl
        · subst en7
          refine g_swK (i' := 82) (k := 17) rfl rfl (by decide) rfl ?_
          refine g_pure 3 (i' := 85) (lv' := [some (vR 0), some (vI (nI 17))]) (st' := [vR 250]) rfl ?_
          refine gW_eq (lv' := [some (vR 0), some (vI 17)]) (st' := [vR 250]) (by rw [(show (nI 17 : Int32) = 17 from rfl)]) rfl rfl ?_
          refine g_getI rfl (g_A (a := 250) (kd := 0) (n := 6) rfl (by decide)) (show _ = S 14 from hL.f11) ?_
          refine g_iret rfl ?_
          exact o27 h1 h5 rfl
        · subst en7
          refine g_swK (i' := 87) (k := 18) rfl rfl (by decide) rfl ?_
          refine g_pure 3 (i' := 90) (lv' := [some (vR 0), some (vI (nI 18))]) (st' := [vR 202]) rfl ?_
          refine gW_eq (lv' := [some (vR 0), some (vI 18)]) (st' := [vR 202]) (by rw [(show (nI 18 : Int32) = 18 from rfl)]) rfl rfl ?_
          refine g_getI rfl (g_A (a := 202) (kd := 0) (n := 3) rfl (by decide)) (show _ = S 15 from hD.f7) ?_
          refine g_iret rfl ?_
          exact o28 h1 h5 rfl
        · subst en7
          refine g_swK (i' := 92) (k := 19) rfl rfl (by decide) rfl ?_
          refine g_pure 2 (i' := 94) (lv' := [some (vR 0), some (vI (nI 19))]) (st' := [vI (sg 0 11)]) rfl ?_
          refine g_iret rfl ?_
          exact o29 h1 h5 rfl
      · refine g_swD (i' := 95) rfl (okr_out (lo := 6) (hi := 19) (by decide) h6) rfl ?_
        refine g_pure 1 (i' := 96) (lv' := [some (vR 0), some (vI x)]) (st' := [vI (-1)]) rfl ?_
        refine g_iret rfl ?_
        exact o30 h1 h5 h6
    · refine g_pure 5 (i' := 10) (lv' := [some (vR 0), some (vI x)]) (st' := [vI x, vR 203]) rfl ?_
      obtain ⟨k9, ek9, lk9⟩ := o31 h1 h5
      refine g_ald rfl (g_A (a := 203) (kd := 1) (n := 6) rfl (by decide)) (by decide) (show x = nI k9 from ek9) (by omega) (show _ = S k9 from (hD.cnt (by omega))) ?_
      refine g_iret rfl ?_
      exact o32 h1 h5 k9 ek9 lk9

theorem okx_le {x : Int32} {n : Nat} (hn : n < 2147483648) : (¬ x < 0 ∧ ¬ nI n ≤ x) ↔ okx x n := by
  rw [Int32.not_le]; exact okx_lt rfl hn
theorem c_count {X : Nat × (Nat → Int32)} {d : Nat} {p : Nat → Nat} {sg : Mg} {B : Nat} {S : Nat → Int32} (hI : Inv B S) (hL : cwL 250 sg S) (hD : cwD 200 sg S) {x : Int32} : gF X (d + 4) 135 [vR 0, vI x] p sg (fun r => r = gRv p sg (countV S (sg 208 6) (sg 0 11) x)) :=
  g_in (cd := k_135) (nL := 2) (rc := 12) rfl (g_A (a := 0) (kd := 0) (n := 11) rfl (by decide)) (g_c1 rfl) (b_135_0 hI hL hD (fun h e => by subst e; exact absurd h (nI_pos (by omega))) (fun h e => by subst e; exact absurd h (nI_pos (by omega))) (fun h e => by subst e; exact absurd h (nI_pos (by omega))) (fun h e => by subst e; exact absurd h (nI_pos (by omega))) (fun h e => by subst e; exact absurd h (nI_pos (by omega))) (fun h e => by subst e; exact absurd h (nI_pos (by omega))) (fun h e => by subst e; exact absurd h (nI_pos (by omega))) (fun h e => by subst e; exact absurd h (nI_pos (by omega))) (fun h e => by subst e; exact absurd h (nI_pos (by omega))) (fun h e => by subst e; exact absurd h (nI_pos (by omega))) (fun h e => by subst e; exact absurd h (nI_pos (by omega))) (fun h e => by subst e; exact absurd h (nI_pos (by omega))) (fun h e => by subst e; exact absurd h (nI_pos (by omega))) (fun h e => by subst e; exact absurd h (nI_pos (by omega))) (fun h _ => congrArg (gRv p sg) (countV_neg h).symm) (fun _ _ e => by subst e; rfl) (fun _ _ e => by subst e; rfl) (fun _ _ e => by subst e; rfl) (fun _ _ e => by subst e; rfl) (fun _ _ e => by subst e; rfl) (fun _ _ e => by subst e; rfl) (fun _ _ e => by subst e; rfl) (fun _ _ e => by subst e; rfl) (fun _ _ e => by subst e; rfl) (fun _ _ e => by subst e; rfl) (fun _ _ e => by subst e; rfl) (fun _ _ e => by subst e; rfl) (fun _ _ e => by subst e; rfl) (fun _ _ e => by subst e; rfl)
    (fun h1 h2 h3 => congrArg (gRv p sg) (countV_out (fun h9 => absurd h2 ((okx_le (n := 6) (by omega)).mpr h9).2) h3).symm)
    (fun h1 h2 => by obtain ⟨k, hk, e⟩ := okx_of ((okx_le (n := 6) (by omega)).mp ⟨h1, h2⟩); exact ⟨k, e, hk⟩)
    (fun h1 h2 k e hk => by subst e; rw [countV_in hk]))

theorem b_312_22 {X : Nat × (Nat → Int32)} {d : Nat} {p : Nat → Nat} {sg : Mg} {Q : am_R → Prop} {B : Nat} {S : Nat → Int32} (hI : Inv B S) (hS : sg 801 = S) {z : Option AV} {t : Int32} {j : Nat} (u_j : j ≤ 8)
    (o1 : (sn S 1 ≤ j) → Q (gRv p sg t))
    (o2 : (¬ (sn S 1 ≤ j)) → gW X (d + 3) k_312 22 [some (vR 800), z, some (vI (t + S (113 + 6 * j + 3))), some (vI (nI (j + 1)))] [] p sg Q) :
    gW X (d + 3) k_312 22 [some (vR 800), z, some (vI t), some (vI (nI j))] [] p sg Q := by
  have b0 := hI.b0; have b1 := hI.b1; have b2 := hI.b2; have b3 := hI.b3; have b4 := hI.b4; have b5 := hI.b5; have b6 := hI.b6; have b7 := hI.b7; have b8 := hI.b8; have b9 := hI.b9; have b14 := hI.b14
  refine g_pure 2 (i' := 24) (lv' := [some (vR 800), z, some (vI t), some (vI (nI j))]) (st' := [vR 800, vI (nI j)]) rfl ?_
  refine g_cV1 rfl (args := [vR 800]) (rest := [vI (nI j)]) rfl rfl rfl (s_203 (d := d + 2) hS) ?_
  refine g_if2 (i' := 35) (P := sn S 1 ≤ j) rfl rfl (g_geN (show nI j = nI j from (rfl : nI j = nI j)) (show S 1 = nI (sn S 1) from (hI.c1)) (by omega) (by omega)) (fun h1 => ?_) (fun h1 => ?_)
  · refine g_pure 1 (i' := 36) (lv' := [some (vR 800), z, some (vI t), some (vI (nI j))]) (st' := [vI t]) rfl ?_
    refine g_iret rfl ?_
    exact o1 h1
  · refine g_pure 4 (i' := 30) (lv' := [some (vR 800), z, some (vI t), some (vI (nI j))]) (st' := [vI 3, vI (nI j), vR 800, vI t]) rfl ?_
    refine gW_eq (st' := [vI (nI 3), vI (nI j), vR 800, vI t]) rfl (by rw [(show (3 : Int32) = nI 3 from rfl)]) rfl ?_
    refine g_cV1 rfl (args := [vR 800, vI (nI j), vI (nI 3)]) (rest := [vI t]) rfl rfl rfl (s_238 (d := d + 2) hS (by omega) (by omega)) ?_
    refine g_pure 4 (i' := 22) (lv' := [some (vR 800), z, some (vI (t + S (113 + 6 * j + 3))), some (vI (nI j + 1))]) (st' := []) rfl ?_
    refine gW_eq (lv' := [some (vR 800), z, some (vI (t + S (113 + 6 * j + 3))), some (vI (nI (j + 1)))]) (st' := []) (by rw [(show (nI j + 1) = nI (j + 1) from ((g_add (rfl : nI j = nI j) (show (1 : Int32) = nI 1 from rfl))).trans (congrArg nI (by omega)))]) rfl rfl ?_
    exact o2 h1

theorem l_312_22 {X : Nat × (Nat → Int32)} {d : Nat} {p : Nat → Nat} {sg : Mg} {Q : am_R → Prop} {B : Nat} {S : Nat → Int32} (hI : Inv B S) (hS : sg 801 = S) {z : Option AV} 
    (x1 : Q (gRv p sg (sumI (fun j9 => S (113 + 6 * j9 + 3)) (sn S 1)))) :
    gW X (d + 3) k_312 22 [some (vR 800), z, some (vI (sumI (fun j9 => S (113 + 6 * j9 + 3)) 0)), some (vI (nI 0))] [] p sg Q := by
  have b0 := hI.b0; have b1 := hI.b1; have b2 := hI.b2; have b3 := hI.b3; have b4 := hI.b4; have b5 := hI.b5; have b6 := hI.b6; have b7 := hI.b7; have b8 := hI.b8; have b9 := hI.b9; have b14 := hI.b14
  refine g_upI (P := fun j => gW X (d + 3) k_312 22 [some (vR 800), z, some (vI (sumI (fun j9 => S (113 + 6 * j9 + 3)) j)), some (vI (nI j))] [] p sg Q) (I := fun j => True) (n := sn S 1) (a := 0) (by omega) trivial (fun j hj0 hj hi ih => ?_) (fun hi => ?_)
  · have ih : True → gW X (d + 3) k_312 22 [some (vR 800), z, some (vI (sumI (fun j9 => S (113 + 6 * j9 + 3)) (j + 1))), some (vI (nI (j + 1)))] [] p sg Q := ih
    exact b_312_22 hI hS (by omega) (fun h1 => by omega) (fun h1 => by rw [show (((sumI (fun j9 => S (113 + 6 * j9 + 3)) j) + S (113 + 6 * j + 3)) : Int32) = (sumI (fun j9 => S (113 + 6 * j9 + 3)) (j + 1)) from by rfl]; exact ih trivial)
  · exact b_312_22 hI hS (by omega) (fun _ => x1) (fun h1 => by omega)

theorem b_312_54 {X : Nat × (Nat → Int32)} {d : Nat} {p : Nat → Nat} {sg : Mg} {Q : am_R → Prop} {B : Nat} {S : Nat → Int32} (hI : Inv B S) (hS : sg 801 = S) {z : Option AV} {t : Int32} {j : Nat} (u_j : j ≤ 8)
    (o1 : (sn S 4 ≤ j) → Q (gRv p sg t))
    (o2 : (¬ (sn S 4 ≤ j)) → gW X (d + 3) k_312 54 [some (vR 800), z, some (vI (t + S (213 + 7 * j + 6))), some (vI (nI (j + 1)))] [] p sg Q) :
    gW X (d + 3) k_312 54 [some (vR 800), z, some (vI t), some (vI (nI j))] [] p sg Q := by
  have b0 := hI.b0; have b1 := hI.b1; have b2 := hI.b2; have b3 := hI.b3; have b4 := hI.b4; have b5 := hI.b5; have b6 := hI.b6; have b7 := hI.b7; have b8 := hI.b8; have b9 := hI.b9; have b14 := hI.b14
  refine g_pure 4 (i' := 58) (lv' := [some (vR 800), z, some (vI t), some (vI (nI j))]) (st' := [vI 4, vR 801, vI (nI j)]) rfl ?_
  refine g_ald rfl (g_A (a := 801) (kd := 1) (n := 2407) rfl (by decide)) (by decide) (show 4 = nI 4 from (show (4 : Int32) = nI 4 from rfl)) (by decide) (show _ = S 4 from (congrFun hS 4)) ?_
  refine g_if2 (i' := 69) (P := sn S 4 ≤ j) rfl rfl (g_geN (show nI j = nI j from (rfl : nI j = nI j)) (show S 4 = nI (sn S 4) from (hI.c4)) (by omega) (by omega)) (fun h1 => ?_) (fun h1 => ?_)
  · refine g_pure 1 (i' := 70) (lv' := [some (vR 800), z, some (vI t), some (vI (nI j))]) (st' := [vI t]) rfl ?_
    refine g_iret rfl ?_
    exact o1 h1
  · refine g_pure 4 (i' := 64) (lv' := [some (vR 800), z, some (vI t), some (vI (nI j))]) (st' := [vI 6, vI (nI j), vR 800, vI t]) rfl ?_
    refine gW_eq (st' := [vI (nI 6), vI (nI j), vR 800, vI t]) rfl (by rw [(show (6 : Int32) = nI 6 from rfl)]) rfl ?_
    refine g_cV1 rfl (args := [vR 800, vI (nI j), vI (nI 6)]) (rest := [vI t]) rfl rfl rfl (s_243 (d := d + 2) hS (by omega) (by omega)) ?_
    refine g_pure 4 (i' := 54) (lv' := [some (vR 800), z, some (vI (t + S (213 + 7 * j + 6))), some (vI (nI j + 1))]) (st' := []) rfl ?_
    refine gW_eq (lv' := [some (vR 800), z, some (vI (t + S (213 + 7 * j + 6))), some (vI (nI (j + 1)))]) (st' := []) (by rw [(show (nI j + 1) = nI (j + 1) from ((g_add (rfl : nI j = nI j) (show (1 : Int32) = nI 1 from rfl))).trans (congrArg nI (by omega)))]) rfl rfl ?_
    exact o2 h1

theorem l_312_54 {X : Nat × (Nat → Int32)} {d : Nat} {p : Nat → Nat} {sg : Mg} {Q : am_R → Prop} {B : Nat} {S : Nat → Int32} (hI : Inv B S) (hS : sg 801 = S) {z : Option AV} 
    (x1 : Q (gRv p sg (sumI (fun j9 => S (213 + 7 * j9 + 6)) (sn S 4)))) :
    gW X (d + 3) k_312 54 [some (vR 800), z, some (vI (sumI (fun j9 => S (213 + 7 * j9 + 6)) 0)), some (vI (nI 0))] [] p sg Q := by
  have b0 := hI.b0; have b1 := hI.b1; have b2 := hI.b2; have b3 := hI.b3; have b4 := hI.b4; have b5 := hI.b5; have b6 := hI.b6; have b7 := hI.b7; have b8 := hI.b8; have b9 := hI.b9; have b14 := hI.b14
  refine g_upI (P := fun j => gW X (d + 3) k_312 54 [some (vR 800), z, some (vI (sumI (fun j9 => S (213 + 7 * j9 + 6)) j)), some (vI (nI j))] [] p sg Q) (I := fun j => True) (n := sn S 4) (a := 0) (by omega) trivial (fun j hj0 hj hi ih => ?_) (fun hi => ?_)
  · have ih : True → gW X (d + 3) k_312 54 [some (vR 800), z, some (vI (sumI (fun j9 => S (213 + 7 * j9 + 6)) (j + 1))), some (vI (nI (j + 1)))] [] p sg Q := ih
    exact b_312_54 hI hS (by omega) (fun h1 => by omega) (fun h1 => by rw [show (((sumI (fun j9 => S (213 + 7 * j9 + 6)) j) + S (213 + 7 * j + 6)) : Int32) = (sumI (fun j9 => S (213 + 7 * j9 + 6)) (j + 1)) from by rfl]; exact ih trivial)
  · exact b_312_54 hI hS (by omega) (fun _ => x1) (fun h1 => by omega)

theorem b_312_0 {X : Nat × (Nat → Int32)} {d : Nat} {p : Nat → Nat} {sg : Mg} {Q : am_R → Prop} {B : Nat} {S : Nat → Int32} (hI : Inv B S) (hS : sg 801 = S) {x : Int32}
    (o1 : ∀ s1 : Mg, s1 = mu sg 800 0 0 → x = nI 7 → (¬ sn S 7 = 1) → Q (gRv p s1 (-1)))
    (o2 : ∀ s1 : Mg, s1 = mu sg 800 0 0 → x = nI 7 → (sn S 7 = 1) → Q (gRv p s1 (S 709)))
    (o3 : ∀ s1 : Mg, s1 = mu sg 800 0 0 → x = nI 8 → Q (gRv p s1 (S 8)))
    (o4 : ∀ s1 : Mg, s1 = mu sg 800 0 0 → x = nI 9 → Q (gRv p s1 (S 9)))
    (o5 : ∀ s1 : Mg, s1 = mu sg 800 0 0 → x = nI 10 → Q (gRv p s1 (S 10)))
    (o6 : ∀ s1 : Mg, s1 = mu sg 800 0 0 → x = nI 11 → gW X (d + 3) k_312 22 [some (vR 800), some (vI 11), some (vI 0), some (vI 0)] [] p s1 Q)
    (o7 : ∀ s1 : Mg, s1 = mu sg 800 0 0 → x = nI 12 → Q (gRv p s1 (S 11)))
    (o8 : ∀ s1 : Mg, s1 = mu sg 800 0 0 → x = nI 13 → Q (gRv p s1 (S 12)))
    (o9 : ∀ s1 : Mg, s1 = mu sg 800 0 0 → x = nI 14 → Q (gRv p s1 (S 13)))
    (o10 : ∀ s1 : Mg, s1 = mu sg 800 0 0 → x = nI 15 → gW X (d + 3) k_312 54 [some (vR 800), some (vI 15), some (vI 0), some (vI 0)] [] p s1 Q)
    (o11 : ∀ s1 : Mg, s1 = mu sg 800 0 0 → x = nI 16 → Q (gRv p s1 (nI (cnt (dnP S) (sn S 5)))))
    (o12 : ∀ s1 : Mg, s1 = mu sg 800 0 0 → x = nI 17 → Q (gRv p s1 (S 14)))
    (o13 : ∀ s1 : Mg, s1 = mu sg 800 0 0 → x = nI 18 → Q (gRv p s1 (S 15)))
    (o14 : ∀ s1 : Mg, s1 = mu sg 800 0 0 → x = nI 19 → Q (gRv p s1 (s1 800 6)))
    (o15 : ∀ s1 : Mg, s1 = mu sg 800 0 0 → (¬ (¬ (x < 7) ∧ ¬ (19 < x))) → (¬ (¬ (x < 0) ∧ ¬ (10 < x))) → Q (gRv p s1 (-1)))
    (o16 : ∀ s1 : Mg, s1 = mu sg 800 0 0 → (¬ (¬ (x < 7) ∧ ¬ (19 < x))) → ∀ n10 : Nat, x = nI n10 → 0 ≤ n10 ∧ n10 ≤ 10 → Q (gRv p s1 (S n10))) :
    gW X (d + 3) k_312 0 [some (vR 800), some (vI x), none, none] [] p sg Q := by
  have b0 := hI.b0; have b1 := hI.b1; have b2 := hI.b2; have b3 := hI.b3; have b4 := hI.b4; have b5 := hI.b5; have b6 := hI.b6; have b7 := hI.b7; have b8 := hI.b8; have b9 := hI.b9; have b14 := hI.b14
  refine g_pure 2 (i' := 2) (lv' := [some (vR 800), some (vI x), none, none]) (st' := [vI 0, vR 800]) rfl ?_
  refine g_putI rfl (g_A (a := 800) (kd := 0) (n := 12) rfl (by decide)) ?_
  refine g_setv (fun s1 es1 => ?_)
  have hSs1 : s1 801 = S := by rw [es1, mu_ne (by decide), hS]
  refine g_pure 3 (i' := 6) (lv' := [some (vR 800), some (vI x), some (vI 0), none]) (st' := [vI x]) rfl ?_
  by_cases h2 : (¬ (x < 7) ∧ ¬ (19 < x))
  · obtain ⟨n3, ln3, en3⟩ := okr_of (lo := 7) (hi := 19) (by decide) h2
    rcases (show n3 = 7 ∨ n3 = 8 ∨ n3 = 9 ∨ n3 = 10 ∨ n3 = 11 ∨ n3 = 12 ∨ n3 = 13 ∨ n3 = 14 ∨ n3 = 15 ∨ n3 = 16 ∨ n3 = 17 ∨ n3 = 18 ∨ n3 = 19 by omega) with rfl | rfl | rfl | rfl | rfl | rfl | rfl | rfl | rfl | rfl | rfl | rfl | rfl
    · subst en3
      refine g_swK (i' := 7) (k := 7) rfl rfl (by decide) rfl ?_
      refine g_pure 3 (i' := 10) (lv' := [some (vR 800), some (vI (nI 7)), some (vI 0), none]) (st' := [vI 7, vR 801]) rfl ?_
      refine gW_eq (lv' := [some (vR 800), some (vI 7), some (vI 0), none]) (st' := [vI 7, vR 801]) (by rw [(show (nI 7 : Int32) = 7 from rfl)]) rfl rfl ?_
      refine g_ald rfl (g_A (a := 801) (kd := 1) (n := 2407) rfl (by decide)) (by decide) (show 7 = nI 7 from (show (7 : Int32) = nI 7 from rfl)) (by decide) (show _ = S 7 from (congrFun hSs1 7)) ?_
      refine g_pure 1 (i' := 12) (lv' := [some (vR 800), some (vI 7), some (vI 0), none]) (st' := [vI 1, vI (S 7)]) rfl ?_
      refine g_if2 (i' := 18) (P := ¬ sn S 7 = 1) rfl rfl (g_neN (show S 7 = nI (sn S 7) from (hI.c7)) (show 1 = nI 1 from (show (1 : Int32) = nI 1 from rfl)) (by omega) (by omega)) (fun h4 => ?_) (fun h4 => ?_)
      · refine g_pure 1 (i' := 19) (lv' := [some (vR 800), some (vI 7), some (vI 0), none]) (st' := [vI (-1)]) rfl ?_
        refine g_iret rfl ?_
        exact o1 s1 es1 rfl h4
      · have h4 := Classical.not_not.mp h4
        refine g_pure 3 (i' := 16) (lv' := [some (vR 800), some (vI 7), some (vI 0), none]) (st' := [vI 709, vR 801]) rfl ?_
        refine g_ald rfl (g_A (a := 801) (kd := 1) (n := 2407) rfl (by decide)) (by decide) (show 709 = nI 709 from (show (709 : Int32) = nI 709 from rfl)) (by decide) (show _ = S 709 from (congrFun hSs1 709)) ?_
        refine g_pure 1 (i' := 19) (lv' := [some (vR 800), some (vI 7), some (vI 0), none]) (st' := [vI (S 709)]) rfl ?_
        refine g_iret rfl ?_
        exact o2 s1 es1 rfl h4
    · subst en3
      refine g_swK (i' := 87) (k := 8) rfl rfl (by decide) rfl ?_
      refine g_pure 3 (i' := 90) (lv' := [some (vR 800), some (vI (nI 8)), some (vI 0), none]) (st' := [vI 10, vI 0, vI (nI 8)]) rfl ?_
      refine gW_eq (lv' := [some (vR 800), some (vI 8), some (vI 0), none]) (st' := [vI 10, vI 0, vI 8]) (by rw [(show (nI 8 : Int32) = 8 from rfl)]) (by rw [(show (nI 8 : Int32) = 8 from rfl)]) rfl ?_
      refine g_cS1 rfl (args := [vI 8, vI 0, vI 10]) (rest := []) rfl rfl rfl (s_231t (d := d + 2) (by decide)) ?_
      refine g_if1 (i' := 97) (P := 1 = 0) rfl rfl (g_eqN (show 1 = nI 1 from (show (1 : Int32) = nI 1 from rfl)) (show 0 = nI 0 from (show (0 : Int32) = nI 0 from rfl)) (by omega) (by omega)) (fun h5 => absurd h5 (by omega)) (fun _ => ?_)
      refine g_pure 3 (i' := 95) (lv' := [some (vR 800), some (vI 8), some (vI 0), none]) (st' := [vI 8, vR 801]) rfl ?_
      refine g_ald rfl (g_A (a := 801) (kd := 1) (n := 2407) rfl (by decide)) (by decide) (show 8 = nI 8 from (show (8 : Int32) = nI 8 from rfl)) (by decide) (show _ = S 8 from (congrFun hSs1 8)) ?_
      refine g_pure 1 (i' := 98) (lv' := [some (vR 800), some (vI 8), some (vI 0), none]) (st' := [vI (S 8)]) rfl ?_
      refine g_iret rfl ?_
      exact o3 s1 es1 rfl
    · subst en3
      refine g_swK (i' := 87) (k := 9) rfl rfl (by decide) rfl ?_
      refine g_pure 3 (i' := 90) (lv' := [some (vR 800), some (vI (nI 9)), some (vI 0), none]) (st' := [vI 10, vI 0, vI (nI 9)]) rfl ?_
      refine gW_eq (lv' := [some (vR 800), some (vI 9), some (vI 0), none]) (st' := [vI 10, vI 0, vI 9]) (by rw [(show (nI 9 : Int32) = 9 from rfl)]) (by rw [(show (nI 9 : Int32) = 9 from rfl)]) rfl ?_
      refine g_cS1 rfl (args := [vI 9, vI 0, vI 10]) (rest := []) rfl rfl rfl (s_231t (d := d + 2) (by decide)) ?_
      refine g_if1 (i' := 97) (P := 1 = 0) rfl rfl (g_eqN (show 1 = nI 1 from (show (1 : Int32) = nI 1 from rfl)) (show 0 = nI 0 from (show (0 : Int32) = nI 0 from rfl)) (by omega) (by omega)) (fun h6 => absurd h6 (by omega)) (fun _ => ?_)
      refine g_pure 3 (i' := 95) (lv' := [some (vR 800), some (vI 9), some (vI 0), none]) (st' := [vI 9, vR 801]) rfl ?_
      refine g_ald rfl (g_A (a := 801) (kd := 1) (n := 2407) rfl (by decide)) (by decide) (show 9 = nI 9 from (show (9 : Int32) = nI 9 from rfl)) (by decide) (show _ = S 9 from (congrFun hSs1 9)) ?_
      refine g_pure 1 (i' := 98) (lv' := [some (vR 800), some (vI 9), some (vI 0), none]) (st' := [vI (S 9)]) rfl ?_
      refine g_iret rfl ?_
      exact o4 s1 es1 rfl
    · subst en3
      refine g_swK (i' := 87) (k := 10) rfl rfl (by decide) rfl ?_
      refine g_pure 3 (i' := 90) (lv' := [some (vR 800), some (vI (nI 10)), some (vI 0), none]) (st' := [vI 10, vI 0, vI (nI 10)]) rfl ?_
      refine gW_eq (lv' := [some (vR 800), some (vI 10), some (vI 0), none]) (st' := [vI 10, vI 0, vI 10]) (by rw [(show (nI 10 : Int32) = 10 from rfl)]) (by rw [(show (nI 10 : Int32) = 10 from rfl)]) rfl ?_
      refine g_cS1 rfl (args := [vI 10, vI 0, vI 10]) (rest := []) rfl rfl rfl (s_231t (d := d + 2) (by decide)) ?_
      refine g_if1 (i' := 97) (P := 1 = 0) rfl rfl (g_eqN (show 1 = nI 1 from (show (1 : Int32) = nI 1 from rfl)) (show 0 = nI 0 from (show (0 : Int32) = nI 0 from rfl)) (by omega) (by omega)) (fun h7 => absurd h7 (by omega)) (fun _ => ?_)
      refine g_pure 3 (i' := 95) (lv' := [some (vR 800), some (vI 10), some (vI 0), none]) (st' := [vI 10, vR 801]) rfl ?_
      refine g_ald rfl (g_A (a := 801) (kd := 1) (n := 2407) rfl (by decide)) (by decide) (show 10 = nI 10 from (show (10 : Int32) = nI 10 from rfl)) (by decide) (show _ = S 10 from (congrFun hSs1 10)) ?_
      refine g_pure 1 (i' := 98) (lv' := [some (vR 800), some (vI 10), some (vI 0), none]) (st' := [vI (S 10)]) rfl ?_
      refine g_iret rfl ?_
      exact o5 s1 es1 rfl
    · subst en3
      refine g_swK (i' := 20) (k := 11) rfl rfl (by decide) rfl ?_
      refine g_pure 2 (i' := 22) (lv' := [some (vR 800), some (vI (nI 11)), some (vI 0), some (vI 0)]) (st' := []) rfl ?_
      refine gW_eq (lv' := [some (vR 800), some (vI 11), some (vI 0), some (vI 0)]) (st' := []) (by rw [(show (nI 11 : Int32) = 11 from rfl)]) rfl rfl ?_
      exact o6 s1 es1 rfl
    · subst en3
      refine g_swK (i' := 37) (k := 12) rfl rfl (by decide) rfl ?_
      refine g_pure 3 (i' := 40) (lv' := [some (vR 800), some (vI (nI 12)), some (vI 0), none]) (st' := [vI 11, vR 801]) rfl ?_
      refine gW_eq (lv' := [some (vR 800), some (vI 12), some (vI 0), none]) (st' := [vI 11, vR 801]) (by rw [(show (nI 12 : Int32) = 12 from rfl)]) rfl rfl ?_
      refine g_ald rfl (g_A (a := 801) (kd := 1) (n := 2407) rfl (by decide)) (by decide) (show 11 = nI 11 from (show (11 : Int32) = nI 11 from rfl)) (by decide) (show _ = S 11 from (congrFun hSs1 11)) ?_
      refine g_iret rfl ?_
      exact o7 s1 es1 rfl
    · subst en3
      refine g_swK (i' := 42) (k := 13) rfl rfl (by decide) rfl ?_
      refine g_pure 3 (i' := 45) (lv' := [some (vR 800), some (vI (nI 13)), some (vI 0), none]) (st' := [vI 12, vR 801]) rfl ?_
      refine gW_eq (lv' := [some (vR 800), some (vI 13), some (vI 0), none]) (st' := [vI 12, vR 801]) (by rw [(show (nI 13 : Int32) = 13 from rfl)]) rfl rfl ?_
      refine g_ald rfl (g_A (a := 801) (kd := 1) (n := 2407) rfl (by decide)) (by decide) (show 12 = nI 12 from (show (12 : Int32) = nI 12 from rfl)) (by decide) (show _ = S 12 from (congrFun hSs1 12)) ?_
      refine g_iret rfl ?_
      exact o8 s1 es1 rfl
    · subst en3
      refine g_swK (i' := 47) (k := 14) rfl rfl (by decide) rfl ?_
      refine g_pure 3 (i' := 50) (lv' := [some (vR 800), some (vI (nI 14)), some (vI 0), none]) (st' := [vI 13, vR 801]) rfl ?_
      refine gW_eq (lv' := [some (vR 800), some (vI 14), some (vI 0), none]) (st' := [vI 13, vR 801]) (by rw [(show (nI 14 : Int32) = 14 from rfl)]) rfl rfl ?_
      refine g_ald rfl (g_A (a := 801) (kd := 1) (n := 2407) rfl (by decide)) (by decide) (show 13 = nI 13 from (show (13 : Int32) = nI 13 from rfl)) (by decide) (show _ = S 13 from (congrFun hSs1 13)) ?_
      refine g_iret rfl ?_
      exact o9 s1 es1 rfl
    · subst en3
      refine g_swK (i' := 52) (k := 15) rfl rfl (by decide) rfl ?_
      refine g_pure 2 (i' := 54) (lv' := [some (vR 800), some (vI (nI 15)), some (vI 0), some (vI 0)]) (st' := []) rfl ?_
      refine gW_eq (lv' := [some (vR 800), some (vI 15), some (vI 0), some (vI 0)]) (st' := []) (by rw [(show (nI 15 : Int32) = 15 from rfl)]) rfl rfl ?_
      exact o10 s1 es1 rfl
    · subst en3
      refine g_swK (i' := 71) (k := 16) rfl rfl (by decide) rfl ?_
      refine g_pure 1 (i' := 72) (lv' := [some (vR 800), some (vI (nI 16)), some (vI 0), none]) (st' := [vR 800]) rfl ?_
      refine gW_eq (lv' := [some (vR 800), some (vI 16), some (vI 0), none]) (st' := [vR 800]) (by rw [(show (nI 16 : Int32) = 16 from rfl)]) rfl rfl ?_
      refine g_cV1 rfl (args := [vR 800]) (rest := []) rfl rfl rfl (s_259 (d := d) hI hSs1) ?_
      have t8 := cnt_le (dnP S) (sn S 5)
      refine g_iret rfl ?_
      exact o11 s1 es1 rfl
    · subst en3
      refine g_swK (i' := 74) (k := 17) rfl rfl (by decide) rfl ?_
      refine g_pure 3 (i' := 77) (lv' := [some (vR 800), some (vI (nI 17)), some (vI 0), none]) (st' := [vI 14, vR 801]) rfl ?_
      refine gW_eq (lv' := [some (vR 800), some (vI 17), some (vI 0), none]) (st' := [vI 14, vR 801]) (by rw [(show (nI 17 : Int32) = 17 from rfl)]) rfl rfl ?_
      refine g_ald rfl (g_A (a := 801) (kd := 1) (n := 2407) rfl (by decide)) (by decide) (show 14 = nI 14 from (show (14 : Int32) = nI 14 from rfl)) (by decide) (show _ = S 14 from (congrFun hSs1 14)) ?_
      refine g_iret rfl ?_
      exact o12 s1 es1 rfl
    · subst en3
      refine g_swK (i' := 79) (k := 18) rfl rfl (by decide) rfl ?_
      refine g_pure 3 (i' := 82) (lv' := [some (vR 800), some (vI (nI 18)), some (vI 0), none]) (st' := [vI 15, vR 801]) rfl ?_
      refine gW_eq (lv' := [some (vR 800), some (vI 18), some (vI 0), none]) (st' := [vI 15, vR 801]) (by rw [(show (nI 18 : Int32) = 18 from rfl)]) rfl rfl ?_
      refine g_ald rfl (g_A (a := 801) (kd := 1) (n := 2407) rfl (by decide)) (by decide) (show 15 = nI 15 from (show (15 : Int32) = nI 15 from rfl)) (by decide) (show _ = S 15 from (congrFun hSs1 15)) ?_
      refine g_iret rfl ?_
      exact o13 s1 es1 rfl
    · subst en3
      refine g_swK (i' := 84) (k := 19) rfl rfl (by decide) rfl ?_
      refine g_pure 2 (i' := 86) (lv' := [some (vR 800), some (vI (nI 19)), some (vI 0), none]) (st' := [vI (s1 800 6)]) rfl ?_
      refine g_iret rfl ?_
      exact o14 s1 es1 rfl
  · refine g_swD (i' := 87) rfl (okr_out (lo := 7) (hi := 19) (by decide) h2) rfl ?_
    refine g_pure 3 (i' := 90) (lv' := [some (vR 800), some (vI x), some (vI 0), none]) (st' := [vI 10, vI 0, vI x]) rfl ?_
    refine g_cS1 rfl (args := [vI x, vI 0, vI 10]) (rest := []) rfl rfl rfl (s_231 (d := d + 2) ) ?_
    refine g_if1 (i' := 97) (P := ¬ (¬ (x < 0) ∧ ¬ (10 < x))) rfl rfl g_eqB (fun h9 => ?_) (fun h9 => ?_)
    · refine g_pure 1 (i' := 98) (lv' := [some (vR 800), some (vI x), some (vI 0), none]) (st' := [vI (-1)]) rfl ?_
      refine g_iret rfl ?_
      exact o15 s1 es1 h2 h9
    · have h9 := Classical.not_not.mp h9
      obtain ⟨n10, ln10, en10⟩ := okr_of (lo := 0) (hi := 10) (by decide) h9
      subst en10
      refine g_pure 3 (i' := 95) (lv' := [some (vR 800), some (vI (nI n10)), some (vI 0), none]) (st' := [vI (nI n10), vR 801]) rfl ?_
      refine g_ald rfl (g_A (a := 801) (kd := 1) (n := 2407) rfl (by decide)) (by decide) (show nI n10 = nI n10 from (rfl : nI n10 = nI n10)) (by omega) (show _ = S n10 from (congrFun hSs1 n10)) ?_
      refine g_pure 1 (i' := 98) (lv' := [some (vR 800), some (vI (nI n10)), some (vI 0), none]) (st' := [vI (S n10)]) rfl ?_
      refine g_iret rfl ?_
      exact o16 s1 es1 h2 n10 rfl ln10

theorem m_count {X : Nat × (Nat → Int32)} {d : Nat} {p : Nat → Nat} {sg : Mg} {B : Nat} {S : Nat → Int32} (hI : Inv B S) (hS : sg 801 = S) {x : Int32} : gF X (d + 4) 312 [vR 800, vI x] p sg (fun r => r = gRv p (mu sg 800 0 0) (countV S (if S 7 = 1 then S 709 else -1) (sg 800 6) x)) := by
  have hs1 : (mu sg 800 0 0) 801 = S := by rw [mu_ne (by decide)]; exact hS
  have b7 := hI.b7
  have h7 : sn S 7 = 1 ↔ S 7 = 1 := by
    rw [hI.c7]
    exact (nI_eq (b := 1) (by omega) (by omega)).symm
  refine g_in (cd := k_312) (nL := 4) (rc := 13) rfl (g_A (a := 800) (kd := 0) (n := 12) rfl (by decide)) (g_c1 rfl) (b_312_0 hI hS ?_ ?_ ?_ ?_ ?_ ?_ ?_ ?_ ?_ ?_ ?_ ?_ ?_ ?_ ?_ ?_)
  all_goals intro s1 f1
  all_goals subst f1
  · intro e h
    subst e
    rw [if_neg (fun h9 => h (h7.mpr h9))]
    rfl
  · intro e h
    subst e
    rw [if_pos (h7.mp h)]
    rfl
  · intro e; subst e; rfl
  · intro e; subst e; rfl
  · intro e; subst e; rfl
  · intro e; subst e; exact l_312_22 hI hs1 rfl
  · intro e; subst e; rfl
  · intro e; subst e; rfl
  · intro e; subst e; rfl
  · intro e; subst e; exact l_312_54 hI hs1 rfl
  · intro e; subst e; rfl
  · intro e; subst e; rfl
  · intro e; subst e; rfl
  · intro e; subst e
    rw [show (mu sg 800 0 0) 800 6 = sg 800 6 from mu_idx (by decide)]
    rfl
  · intro h1 h2
    refine congrArg (gRv p _) (countV_out (fun h9 => ?_) (fun h9 => ?_)).symm
    · obtain ⟨k, hk, e⟩ := okx_of h9
      subst e
      exact h2 ⟨nI_pos (by omega), nI_nlt (a := 10) (by omega) (by omega)⟩
    · apply h1
      refine ⟨fun h8 => ?_, h9.2⟩
      obtain ⟨k, hk, e⟩ := nI_of (x := x) (fun h0 => h9.1 (Int32.lt_trans h0 (by decide)))
      subst e
      have h10 : ¬ k < 6 := fun h => h9.1 ((nI_ltI (b := 6) hk (by omega)).mpr h)
      have h11 : k < 7 := (nI_ltI (b := 7) hk (by omega)).mp h8
      exact h2 ⟨nI_pos hk, nI_nlt (a := 10) (by omega) (by omega)⟩
  · intro h1 k e hk
    subst e
    rcases Nat.lt_or_ge k 6 with h6 | h6
    · exact congrArg (gRv p _) (countV_in h6).symm
    · have h10 : ¬ (7 ≤ k) := fun h => h1 ⟨nI_nlt (b := 7) (by omega) (by omega), nI_nlt (a := 19) (by omega) (by omega)⟩
      have e6 : k = 6 := by omega
      subst e6
      rfl
