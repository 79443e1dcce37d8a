/-! COUNTS (made by wip/whole/gen40.py) -/
theorem s_317r {X : Nat × (Nat → Int32)} {d : Nat} {p : Nat → Nat} {sg : Mg} {x : Int32} : gF X (d + 1) 317 [vI x] p sg (fun r => r = gRv p sg ((((((((x - (((x : Int32).toUInt32 >>> ((1 : Int32).toUInt32 &&& Int32.toUInt32 31)).toInt32 &&& 1431655765)) &&& 858993459) + ((((x - (((x : Int32).toUInt32 >>> ((1 : Int32).toUInt32 &&& Int32.toUInt32 31)).toInt32 &&& 1431655765)) : Int32).toUInt32 >>> ((2 : Int32).toUInt32 &&& Int32.toUInt32 31)).toInt32 &&& 858993459)) + (((((x - (((x : Int32).toUInt32 >>> ((1 : Int32).toUInt32 &&& Int32.toUInt32 31)).toInt32 &&& 1431655765)) &&& 858993459) + ((((x - (((x : Int32).toUInt32 >>> ((1 : Int32).toUInt32 &&& Int32.toUInt32 31)).toInt32 &&& 1431655765)) : Int32).toUInt32 >>> ((2 : Int32).toUInt32 &&& Int32.toUInt32 31)).toInt32 &&& 858993459)) : Int32).toUInt32 >>> ((4 : Int32).toUInt32 &&& Int32.toUInt32 31)).toInt32) &&& 252645135) + (((((((x - (((x : Int32).toUInt32 >>> ((1 : Int32).toUInt32 &&& Int32.toUInt32 31)).toInt32 &&& 1431655765)) &&& 858993459) + ((((x - (((x : Int32).toUInt32 >>> ((1 : Int32).toUInt32 &&& Int32.toUInt32 31)).toInt32 &&& 1431655765)) : Int32).toUInt32 >>> ((2 : Int32).toUInt32 &&& Int32.toUInt32 31)).toInt32 &&& 858993459)) + (((((x - (((x : Int32).toUInt32 >>> ((1 : Int32).toUInt32 &&& Int32.toUInt32 31)).toInt32 &&& 1431655765)) &&& 858993459) + ((((x - (((x : Int32).toUInt32 >>> ((1 : Int32).toUInt32 &&& Int32.toUInt32 31)).toInt32 &&& 1431655765)) : Int32).toUInt32 >>> ((2 : Int32).toUInt32 &&& Int32.toUInt32 31)).toInt32 &&& 858993459)) : Int32).toUInt32 >>> ((4 : Int32).toUInt32 &&& Int32.toUInt32 31)).toInt32) &&& 252645135) : Int32).toUInt32 >>> ((8 : Int32).toUInt32 &&& Int32.toUInt32 31)).toInt32) + ((((((((x - (((x : Int32).toUInt32 >>> ((1 : Int32).toUInt32 &&& Int32.toUInt32 31)).toInt32 &&& 1431655765)) &&& 858993459) + ((((x - (((x : Int32).toUInt32 >>> ((1 : Int32).toUInt32 &&& Int32.toUInt32 31)).toInt32 &&& 1431655765)) : Int32).toUInt32 >>> ((2 : Int32).toUInt32 &&& Int32.toUInt32 31)).toInt32 &&& 858993459)) + (((((x - (((x : Int32).toUInt32 >>> ((1 : Int32).toUInt32 &&& Int32.toUInt32 31)).toInt32 &&& 1431655765)) &&& 858993459) + ((((x - (((x : Int32).toUInt32 >>> ((1 : Int32).toUInt32 &&& Int32.toUInt32 31)).toInt32 &&& 1431655765)) : Int32).toUInt32 >>> ((2 : Int32).toUInt32 &&& Int32.toUInt32 31)).toInt32 &&& 858993459)) : Int32).toUInt32 >>> ((4 : Int32).toUInt32 &&& Int32.toUInt32 31)).toInt32) &&& 252645135) + (((((((x - (((x : Int32).toUInt32 >>> ((1 : Int32).toUInt32 &&& Int32.toUInt32 31)).toInt32 &&& 1431655765)) &&& 858993459) + ((((x - (((x : Int32).toUInt32 >>> ((1 : Int32).toUInt32 &&& Int32.toUInt32 31)).toInt32 &&& 1431655765)) : Int32).toUInt32 >>> ((2 : Int32).toUInt32 &&& Int32.toUInt32 31)).toInt32 &&& 858993459)) + (((((x - (((x : Int32).toUInt32 >>> ((1 : Int32).toUInt32 &&& Int32.toUInt32 31)).toInt32 &&& 1431655765)) &&& 858993459) + ((((x - (((x : Int32).toUInt32 >>> ((1 : Int32).toUInt32 &&& Int32.toUInt32 31)).toInt32 &&& 1431655765)) : Int32).toUInt32 >>> ((2 : Int32).toUInt32 &&& Int32.toUInt32 31)).toInt32 &&& 858993459)) : Int32).toUInt32 >>> ((4 : Int32).toUInt32 &&& Int32.toUInt32 31)).toInt32) &&& 252645135) : Int32).toUInt32 >>> ((8 : Int32).toUInt32 &&& Int32.toUInt32 31)).toInt32) : Int32).toUInt32 >>> ((16 : Int32).toUInt32 &&& Int32.toUInt32 31)).toInt32) &&& 63)) := by
  refine g_in (cd := k_317) (nL := 1) (rc := 0) rfl trivial (g_c1 rfl) ?_
  show gW X (d) k_317 0 [some (vI x)] [] p sg _
  refine g_pure 41 (i' := 41) (lv' := [some (vI (((((((x - (((x : Int32).toUInt32 >>> ((1 : Int32).toUInt32 &&& Int32.toUInt32 31)).toInt32 &&& 1431655765)) &&& 858993459) + ((((x - (((x : Int32).toUInt32 >>> ((1 : Int32).toUInt32 &&& Int32.toUInt32 31)).toInt32 &&& 1431655765)) : Int32).toUInt32 >>> ((2 : Int32).toUInt32 &&& Int32.toUInt32 31)).toInt32 &&& 858993459)) + (((((x - (((x : Int32).toUInt32 >>> ((1 : Int32).toUInt32 &&& Int32.toUInt32 31)).toInt32 &&& 1431655765)) &&& 858993459) + ((((x - (((x : Int32).toUInt32 >>> ((1 : Int32).toUInt32 &&& Int32.toUInt32 31)).toInt32 &&& 1431655765)) : Int32).toUInt32 >>> ((2 : Int32).toUInt32 &&& Int32.toUInt32 31)).toInt32 &&& 858993459)) : Int32).toUInt32 >>> ((4 : Int32).toUInt32 &&& Int32.toUInt32 31)).toInt32) &&& 252645135) + (((((((x - (((x : Int32).toUInt32 >>> ((1 : Int32).toUInt32 &&& Int32.toUInt32 31)).toInt32 &&& 1431655765)) &&& 858993459) + ((((x - (((x : Int32).toUInt32 >>> ((1 : Int32).toUInt32 &&& Int32.toUInt32 31)).toInt32 &&& 1431655765)) : Int32).toUInt32 >>> ((2 : Int32).toUInt32 &&& Int32.toUInt32 31)).toInt32 &&& 858993459)) + (((((x - (((x : Int32).toUInt32 >>> ((1 : Int32).toUInt32 &&& Int32.toUInt32 31)).toInt32 &&& 1431655765)) &&& 858993459) + ((((x - (((x : Int32).toUInt32 >>> ((1 : Int32).toUInt32 &&& Int32.toUInt32 31)).toInt32 &&& 1431655765)) : Int32).toUInt32 >>> ((2 : Int32).toUInt32 &&& Int32.toUInt32 31)).toInt32 &&& 858993459)) : Int32).toUInt32 >>> ((4 : Int32).toUInt32 &&& Int32.toUInt32 31)).toInt32) &&& 252645135) : Int32).toUInt32 >>> ((8 : Int32).toUInt32 &&& Int32.toUInt32 31)).toInt32) + ((((((((x - (((x : Int32).toUInt32 >>> ((1 : Int32).toUInt32 &&& Int32.toUInt32 31)).toInt32 &&& 1431655765)) &&& 858993459) + ((((x - (((x : Int32).toUInt32 >>> ((1 : Int32).toUInt32 &&& Int32.toUInt32 31)).toInt32 &&& 1431655765)) : Int32).toUInt32 >>> ((2 : Int32).toUInt32 &&& Int32.toUInt32 31)).toInt32 &&& 858993459)) + (((((x - (((x : Int32).toUInt32 >>> ((1 : Int32).toUInt32 &&& Int32.toUInt32 31)).toInt32 &&& 1431655765)) &&& 858993459) + ((((x - (((x : Int32).toUInt32 >>> ((1 : Int32).toUInt32 &&& Int32.toUInt32 31)).toInt32 &&& 1431655765)) : Int32).toUInt32 >>> ((2 : Int32).toUInt32 &&& Int32.toUInt32 31)).toInt32 &&& 858993459)) : Int32).toUInt32 >>> ((4 : Int32).toUInt32 &&& Int32.toUInt32 31)).toInt32) &&& 252645135) + (((((((x - (((x : Int32).toUInt32 >>> ((1 : Int32).toUInt32 &&& Int32.toUInt32 31)).toInt32 &&& 1431655765)) &&& 858993459) + ((((x - (((x : Int32).toUInt32 >>> ((1 : Int32).toUInt32 &&& Int32.toUInt32 31)).toInt32 &&& 1431655765)) : Int32).toUInt32 >>> ((2 : Int32).toUInt32 &&& Int32.toUInt32 31)).toInt32 &&& 858993459)) + (((((x - (((x : Int32).toUInt32 >>> ((1 : Int32).toUInt32 &&& Int32.toUInt32 31)).toInt32 &&& 1431655765)) &&& 858993459) + ((((x - (((x : Int32).toUInt32 >>> ((1 : Int32).toUInt32 &&& Int32.toUInt32 31)).toInt32 &&& 1431655765)) : Int32).toUInt32 >>> ((2 : Int32).toUInt32 &&& Int32.toUInt32 31)).toInt32 &&& 858993459)) : Int32).toUInt32 >>> ((4 : Int32).toUInt32 &&& Int32.toUInt32 31)).toInt32) &&& 252645135) : Int32).toUInt32 >>> ((8 : Int32).toUInt32 &&& Int32.toUInt32 31)).toInt32) : Int32).toUInt32 >>> ((16 : Int32).toUInt32 &&& Int32.toUInt32 31)).toInt32))]) (st' := [vI ((((((((x - (((x : Int32).toUInt32 >>> ((1 : Int32).toUInt32 &&& Int32.toUInt32 31)).toInt32 &&& 1431655765)) &&& 858993459) + ((((x - (((x : Int32).toUInt32 >>> ((1 : Int32).toUInt32 &&& Int32.toUInt32 31)).toInt32 &&& 1431655765)) : Int32).toUInt32 >>> ((2 : Int32).toUInt32 &&& Int32.toUInt32 31)).toInt32 &&& 858993459)) + (((((x - (((x : Int32).toUInt32 >>> ((1 : Int32).toUInt32 &&& Int32.toUInt32 31)).toInt32 &&& 1431655765)) &&& 858993459) + ((((x - (((x : Int32).toUInt32 >>> ((1 : Int32).toUInt32 &&& Int32.toUInt32 31)).toInt32 &&& 1431655765)) : Int32).toUInt32 >>> ((2 : Int32).toUInt32 &&& Int32.toUInt32 31)).toInt32 &&& 858993459)) : Int32).toUInt32 >>> ((4 : Int32).toUInt32 &&& Int32.toUInt32 31)).toInt32) &&& 252645135) + (((((((x - (((x : Int32).toUInt32 >>> ((1 : Int32).toUInt32 &&& Int32.toUInt32 31)).toInt32 &&& 1431655765)) &&& 858993459) + ((((x - (((x : Int32).toUInt32 >>> ((1 : Int32).toUInt32 &&& Int32.toUInt32 31)).toInt32 &&& 1431655765)) : Int32).toUInt32 >>> ((2 : Int32).toUInt32 &&& Int32.toUInt32 31)).toInt32 &&& 858993459)) + (((((x - (((x : Int32).toUInt32 >>> ((1 : Int32).toUInt32 &&& Int32.toUInt32 31)).toInt32 &&& 1431655765)) &&& 858993459) + ((((x - (((x : Int32).toUInt32 >>> ((1 : Int32).toUInt32 &&& Int32.toUInt32 31)).toInt32 &&& 1431655765)) : Int32).toUInt32 >>> ((2 : Int32).toUInt32 &&& Int32.toUInt32 31)).toInt32 &&& 858993459)) : Int32).toUInt32 >>> ((4 : Int32).toUInt32 &&& Int32.toUInt32 31)).toInt32) &&& 252645135) : Int32).toUInt32 >>> ((8 : Int32).toUInt32 &&& Int32.toUInt32 31)).toInt32) + ((((((((x - (((x : Int32).toUInt32 >>> ((1 : Int32).toUInt32 &&& Int32.toUInt32 31)).toInt32 &&& 1431655765)) &&& 858993459) + ((((x - (((x : Int32).toUInt32 >>> ((1 : Int32).toUInt32 &&& Int32.toUInt32 31)).toInt32 &&& 1431655765)) : Int32).toUInt32 >>> ((2 : Int32).toUInt32 &&& Int32.toUInt32 31)).toInt32 &&& 858993459)) + (((((x - (((x : Int32).toUInt32 >>> ((1 : Int32).toUInt32 &&& Int32.toUInt32 31)).toInt32 &&& 1431655765)) &&& 858993459) + ((((x - (((x : Int32).toUInt32 >>> ((1 : Int32).toUInt32 &&& Int32.toUInt32 31)).toInt32 &&& 1431655765)) : Int32).toUInt32 >>> ((2 : Int32).toUInt32 &&& Int32.toUInt32 31)).toInt32 &&& 858993459)) : Int32).toUInt32 >>> ((4 : Int32).toUInt32 &&& Int32.toUInt32 31)).toInt32) &&& 252645135) + (((((((x - (((x : Int32).toUInt32 >>> ((1 : Int32).toUInt32 &&& Int32.toUInt32 31)).toInt32 &&& 1431655765)) &&& 858993459) + ((((x - (((x : Int32).toUInt32 >>> ((1 : Int32).toUInt32 &&& Int32.toUInt32 31)).toInt32 &&& 1431655765)) : Int32).toUInt32 >>> ((2 : Int32).toUInt32 &&& Int32.toUInt32 31)).toInt32 &&& 858993459)) + (((((x - (((x : Int32).toUInt32 >>> ((1 : Int32).toUInt32 &&& Int32.toUInt32 31)).toInt32 &&& 1431655765)) &&& 858993459) + ((((x - (((x : Int32).toUInt32 >>> ((1 : Int32).toUInt32 &&& Int32.toUInt32 31)).toInt32 &&& 1431655765)) : Int32).toUInt32 >>> ((2 : Int32).toUInt32 &&& Int32.toUInt32 31)).toInt32 &&& 858993459)) : Int32).toUInt32 >>> ((4 : Int32).toUInt32 &&& Int32.toUInt32 31)).toInt32) &&& 252645135) : Int32).toUInt32 >>> ((8 : Int32).toUInt32 &&& Int32.toUInt32 31)).toInt32) : Int32).toUInt32 >>> ((16 : Int32).toUInt32 &&& Int32.toUInt32 31)).toInt32) &&& 63)]) rfl ?_
  refine g_iret rfl ?_
  exact rfl

theorem s_317 {X : Nat × (Nat → Int32)} {d : Nat} {p : Nat → Nat} {sg : Mg} {x : Int32} : gF X (d + 1) 317 [vI x] p sg (fun r => r = gRv p sg (bcI x)) := s_317r
theorem cnt_left (P : Nat → Bool) : ∀ n, cnt P (n + 1) = (if P 0 then 1 else 0) + cnt (fun k => P (k + 1)) n
  | 0 => by simp [cnt]
  | n + 1 => by
    rw [cnt, cnt_left P n, cnt]
    omega
theorem cnt_ext {P Q : Nat → Bool} : ∀ {n : Nat}, (∀ k, k < n → P k = Q k) → cnt P n = cnt Q n
  | 0, _ => rfl
  | n + 1, h => by
    rw [cnt, cnt, cnt_ext (fun k hk => h k (by omega)), h n (by omega)]
theorem popc_cnt : ∀ f m, popc f m = cnt (fun k => m.testBit k) f
  | 0, _ => rfl
  | f + 1, m => by
    rw [popc, popc_cnt f (m / 2), cnt_left]
    congr 1
    · rw [Nat.testBit_zero]
      by_cases h : m % 2 = 1
      · simp [h]
      · simp [h]; omega
    · exact cnt_ext (fun k _ => (Nat.testBit_succ m k).symm)
theorem cnt_none {P : Nat → Bool} {n : Nat} : ∀ {m : Nat}, (∀ k, n ≤ k → P k = false) → n ≤ m → cnt P m = cnt P n
  | 0, _, h => by have : n = 0 := by omega
                  subst this; rfl
  | m + 1, hp, h => by
    rcases Nat.lt_or_ge n (m + 1) with h1 | h1
    · rw [cnt, cnt_none hp (by omega), hp m (by omega)]
      rfl
    · have : n = m + 1 := by omega
      subst this; rfl
theorem popc_bset {P : Nat → Bool} {n : Nat} (hn : n ≤ 9) : popc 9 (bset P n) = cnt P n := by
  rw [popc_cnt, cnt_none (n := n) (fun k hk => by rw [bset_bit]; simp; omega) hn]
  exact cnt_ext (fun k hk => by rw [bset_bit]; simp [hk])
theorem bcI_bset {P : Nat → Bool} {n : Nat} (hn : n ≤ 9) : bcI (nI (bset P n)) = nI (cnt P n) := by
  have h1 : bset P n < 512 := Nat.lt_of_lt_of_le (bset_lt P n) (Nat.pow_le_pow_right (by decide) hn)
  rw [bcI_nI _ h1, popc_bset hn]
theorem cnt_not (P : Nat → Bool) : ∀ n, cnt P n + cnt (fun k => !P k) n = n
  | 0 => rfl
  | n + 1 => by
    have := cnt_not P n
    simp only [cnt]
    by_cases hp : P n = true
    · simp [hp]; omega
    · simp [hp]; omega
def opn (S : Nat → Int32) (x : Int32) (k : Nat) : Bool := decide (¬ (x >>> (nI k &&& 31)) &&& 1 = 0 ∧ S (269 + 5 * k + 3) = -1)
def dnP (S : Nat → Int32) (k : Nat) : Bool := decide (0 ≤ S (269 + 5 * k + 3))
def sumI (f : Nat → Int32) : Nat → Int32
  | 0 => 0
  | n + 1 => sumI f n + f n

theorem b_108_0 {X : Nat × (Nat → Int32)} {d : Nat} {p : Nat → Nat} {sg : Mg} {Q : am_R → Prop} {B : Nat} {S : Nat → Int32} (hI : Inv B S) (hL : cwL 250 sg S) (hD : cwD 200 sg S) {x : Int32}
    (o1 : gW X (d) k_108 4 [some (vR 200), some (vI x), some (vI 0), some (vI 0)] [] p sg Q) :
    gW X (d) k_108 0 [some (vR 200), some (vI x), none, none] [] p sg Q := by
  have b0 := hI.b0; have b1 := hI.b1; have b2 := hI.b2; have b3 := hI.b3; have b4 := hI.b4; have b5 := hI.b5; have b6 := hI.b6; have b8 := hI.b8; have b9 := hI.b9; have b14 := hI.b14
  refine g_pure 4 (i' := 4) (lv' := [some (vR 200), some (vI x), some (vI 0), some (vI 0)]) (st' := []) rfl ?_
  exact o1

theorem b_108_4 {X : Nat × (Nat → Int32)} {d : Nat} {p : Nat → Nat} {sg : Mg} {Q : am_R → Prop} {B : Nat} {S : Nat → Int32} (hI : Inv B S) (hL : cwL 250 sg S) (hD : cwD 200 sg S) {x : Int32} {t : Int32} {j : Nat} (u_j : j ≤ 8)
    (o1 : (sn S 5 ≤ j) → Q (gRv p sg t))
    (o2 : (¬ (sn S 5 ≤ j)) → (((x >>> (nI j &&& 31)) &&& 1) = 0) → gW X (d) k_108 4 [some (vR 200), some (vI x), some (vI t), some (vI (nI (j + 1)))] [] p sg Q)
    (o3 : (¬ (sn S 5 ≤ j)) → (¬ (((x >>> (nI j &&& 31)) &&& 1) = 0)) → (¬ S (269 + 5 * j + 3) = (-1)) → gW X (d) k_108 4 [some (vR 200), some (vI x), some (vI t), some (vI (nI (j + 1)))] [] p sg Q)
    (o4 : (¬ (sn S 5 ≤ j)) → (¬ (((x >>> (nI j &&& 31)) &&& 1) = 0)) → (S (269 + 5 * j + 3) = (-1)) → gW X (d) k_108 4 [some (vR 200), some (vI x), some (vI (t ||| (1 <<< (nI j &&& 31)))), some (vI (nI (j + 1)))] [] p sg Q) :
    gW X (d) k_108 4 [some (vR 200), some (vI x), some (vI t), some (vI (nI j))] [] p sg Q := by
  have b0 := hI.b0; have b1 := hI.b1; have b2 := hI.b2; have b3 := hI.b3; have b4 := hI.b4; have b5 := hI.b5; have b6 := hI.b6; have b8 := hI.b8; have b9 := hI.b9; have b14 := hI.b14
  refine g_pure 5 (i' := 9) (lv' := [some (vR 200), some (vI x), some (vI t), some (vI (nI j))]) (st' := [vI 5, vR 203, vI (nI j)]) rfl ?_
  refine g_ald rfl (g_A (a := 203) (kd := 1) (n := 6) rfl (by decide)) (by decide) (show 5 = nI 5 from (show (5 : Int32) = nI 5 from rfl)) (by decide) (show _ = S 5 from (hD.cnt (by decide))) ?_
  refine g_if2 (i' := 32) (P := sn S 5 ≤ j) rfl rfl (g_geN (show nI j = nI j from (rfl : nI j = nI j)) (show S 5 = nI (sn S 5) from (hI.c5)) (by omega) (by omega)) (fun h1 => ?_) (fun h1 => ?_)
  · refine g_pure 1 (i' := 33) (lv' := [some (vR 200), some (vI x), some (vI t), some (vI (nI j))]) (st' := [vI t]) rfl ?_
    refine g_iret rfl ?_
    exact o1 h1
  · refine g_pure 5 (i' := 16) (lv' := [some (vR 200), some (vI x), some (vI t), some (vI (nI j))]) (st' := [vI ((x >>> (nI j &&& 31)) &&& 1)]) rfl ?_
    refine g_if1 (i' := 30) (P := ((x >>> (nI j &&& 31)) &&& 1) = 0) rfl rfl Iff.rfl (fun h2 => ?_) (fun h2 => ?_)
    · refine g_pure 2 (i' := 4) (lv' := [some (vR 200), some (vI x), some (vI t), some (vI (nI j + 1))]) (st' := []) rfl ?_
      refine gW_eq (lv' := [some (vR 200), some (vI x), some (vI t), some (vI (nI (j + 1)))]) (st' := []) (by rw [(show (nI j + 1) = nI (j + 1) from ((g_add (rfl : nI j = nI j) (show (1 : Int32) = nI 1 from rfl))).trans (congrArg nI (by omega)))]) rfl rfl ?_
      exact o2 h1 h2
    · refine g_pure 4 (i' := 21) (lv' := [some (vR 200), some (vI x), some (vI t), some (vI (nI j))]) (st' := [vI (nI j), vR 259]) rfl ?_
      refine g_ald rfl (g_A (a := 259) (kd := 1) (n := 8) rfl (by decide)) (by decide) (show nI j = nI j from (rfl : nI j = nI j)) (by omega) (show _ = S (269 + 5 * j + 3) from (hL.don 0 (by decide) (by omega))) ?_
      refine g_pure 1 (i' := 23) (lv' := [some (vR 200), some (vI x), some (vI t), some (vI (nI j))]) (st' := [vI (-1), vI (S (269 + 5 * j + 3))]) rfl ?_
      refine g_if2 (i' := 30) (P := ¬ S (269 + 5 * j + 3) = (-1)) rfl rfl Iff.rfl (fun h3 => ?_) (fun h3 => ?_)
      · refine g_pure 2 (i' := 4) (lv' := [some (vR 200), some (vI x), some (vI t), some (vI (nI j + 1))]) (st' := []) rfl ?_
        refine gW_eq (lv' := [some (vR 200), some (vI x), some (vI t), some (vI (nI (j + 1)))]) (st' := []) (by rw [(show (nI j + 1) = nI (j + 1) from ((g_add (rfl : nI j = nI j) (show (1 : Int32) = nI 1 from rfl))).trans (congrArg nI (by omega)))]) rfl rfl ?_
        exact o3 h1 h2 h3
      · have h3 := Classical.not_not.mp h3
        refine g_pure 8 (i' := 4) (lv' := [some (vR 200), some (vI x), some (vI (t ||| (1 <<< (nI j &&& 31)))), some (vI (nI j + 1))]) (st' := []) rfl ?_
        refine gW_eq (lv' := [some (vR 200), some (vI x), some (vI (t ||| (1 <<< (nI j &&& 31)))), some (vI (nI (j + 1)))]) (st' := []) (by rw [(show (nI j + 1) = nI (j + 1) from ((g_add (rfl : nI j = nI j) (show (1 : Int32) = nI 1 from rfl))).trans (congrArg nI (by omega)))]) rfl rfl ?_
        exact o4 h1 h2 h3

theorem l_108_4 {X : Nat × (Nat → Int32)} {d : Nat} {p : Nat → Nat} {sg : Mg} {Q : am_R → Prop} {B : Nat} {S : Nat → Int32} (hI : Inv B S) (hL : cwL 250 sg S) (hD : cwD 200 sg S) {x : Int32} 
    (x1 : Q (gRv p sg (nI (bset (opn S x) (sn S 5))))) :
    gW X (d) k_108 4 [some (vR 200), some (vI x), some (vI (nI (bset (opn S x) 0))), some (vI (nI 0))] [] p sg Q := by
  have b0 := hI.b0; have b1 := hI.b1; have b2 := hI.b2; have b3 := hI.b3; have b4 := hI.b4; have b5 := hI.b5; have b6 := hI.b6; have b8 := hI.b8; have b9 := hI.b9; have b14 := hI.b14
  refine g_upI (P := fun j => gW X (d) k_108 4 [some (vR 200), some (vI x), some (vI (nI (bset (opn S x) j))), some (vI (nI j))] [] p sg Q) (I := fun j => True) (n := sn S 5) (a := 0) (by omega) trivial (fun j hj0 hj hi ih => ?_) (fun hi => ?_)
  · have ih : True → gW X (d) k_108 4 [some (vR 200), some (vI x), some (vI (nI (bset (opn S x) (j + 1)))), some (vI (nI (j + 1)))] [] p sg Q := ih
    exact b_108_4 hI hL hD (by omega) (fun h1 => by omega) (fun h1 h2 => by rw [show ((nI (bset (opn S x) j)) : Int32) = (nI (bset (opn S x) (j + 1))) from by simp [bset, opn, nI_orbit (show j < 32 by omega), *]]; exact ih trivial) (fun h1 h2 h3 => by rw [show ((nI (bset (opn S x) j)) : Int32) = (nI (bset (opn S x) (j + 1))) from by simp [bset, opn, nI_orbit (show j < 32 by omega), *]]; exact ih trivial) (fun h1 h2 h3 => by rw [show (((nI (bset (opn S x) j)) ||| (1 <<< (nI j &&& 31))) : Int32) = (nI (bset (opn S x) (j + 1))) from by simp [bset, opn, nI_orbit (show j < 32 by omega), *]]; exact ih trivial)
  · exact b_108_4 hI hL hD (by omega) (fun _ => x1) (fun h1 h2 => by omega) (fun h1 h2 h3 => by omega) (fun h1 h2 h3 => by omega)

theorem s_108 {X : Nat × (Nat → Int32)} {d : Nat} {p : Nat → Nat} {sg : Mg} {B : Nat} {S : Nat → Int32} (hI : Inv B S) (hL : cwL 250 sg S) (hD : cwD 200 sg S) {x : Int32} : gF X (d + 1) 108 [vR 200, vI x] p sg (fun r => r = gRv p sg (nI (bset (opn S x) (sn S 5)))) := g_in (cd := k_108) (nL := 4) (rc := 11) rfl (g_A (a := 200) (kd := 0) (n := 10) rfl (by decide)) (g_c1 rfl) (b_108_0 hI hL hD (l_108_4 hI hL hD rfl))
theorem opn_dn {B : Nat} {S : Nat → Int32} (hI : Inv B S) {k : Nat} (hk : k < sn S 5) : opn S (-1) k = !dnP S k := by
  have b5 := hI.b5
  have h1 : ∀ k, k < 8 → ¬ ((-1 : Int32) >>> (nI k &&& 31)) &&& 1 = 0 := by decide +kernel
  have h2 := h1 k (by omega)
  unfold opn dnP
  rcases (hI.tas hk).2.2.2 with h | h
  · simp [h2, h.1]
  · have h3 : 0 ≤ S (269 + 5 * k + 3) := by rw [h.1.1]; exact nI_pos' (by have := h.1.2; have := hI.b1; omega)
    have h4 : ¬ S (269 + 5 * k + 3) = -1 := fun h9 => by rw [h9] at h3; exact absurd h3 (by decide)
    simp [h2, h3, h4]
theorem opn_cnt {B : Nat} {S : Nat → Int32} (hI : Inv B S) : sn S 5 - cnt (opn S (-1)) (sn S 5) = cnt (dnP S) (sn S 5) := by
  have h := cnt_not (dnP S) (sn S 5)
  rw [cnt_ext (Q := fun k => !dnP S k) (fun k hk => opn_dn hI hk)]
  omega

theorem s_107r {X : Nat × (Nat → Int32)} {d : Nat} {p : Nat → Nat} {sg : Mg} {B : Nat} {S : Nat → Int32} (hI : Inv B S) (hL : cwL 250 sg S) (hD : cwD 200 sg S) : gF X (d + 2) 107 [vR 200] p sg (fun r => r = gRv p sg (S 5 - bcI (nI (bset (opn S (-1)) (sn S 5))))) := by
  have b0 := hI.b0; have b1 := hI.b1; have b2 := hI.b2; have b3 := hI.b3; have b4 := hI.b4; have b5 := hI.b5; have b6 := hI.b6; have b8 := hI.b8; have b9 := hI.b9; have b14 := hI.b14
  refine g_in (cd := k_107) (nL := 1) (rc := 11) rfl (g_A (a := 200) (kd := 0) (n := 10) rfl (by decide)) (g_c1 rfl) ?_
  show gW X (d + 1) k_107 0 [some (vR 200)] [] p sg _
  refine g_pure 4 (i' := 4) (lv' := [some (vR 200)]) (st' := [vI 5, vR 203]) rfl ?_
  refine g_ald rfl (g_A (a := 203) (kd := 1) (n := 6) rfl (by decide)) (by decide) (show 5 = nI 5 from (show (5 : Int32) = nI 5 from rfl)) (by decide) (show _ = S 5 from (hD.cnt (by decide))) ?_
  refine g_pure 2 (i' := 7) (lv' := [some (vR 200)]) (st' := [vI (-1), vR 200, vI (S 5)]) rfl ?_
  refine g_cV1 rfl (args := [vR 200, vI (-1)]) (rest := [vI (S 5)]) rfl rfl rfl (s_108 (d := d) hI hL hD) ?_
  refine g_cS1 rfl (args := [vI (nI (bset (opn S (-1)) (sn S 5)))]) (rest := [vI (S 5)]) rfl rfl rfl (s_317 (d := d) ) ?_
  refine g_pure 1 (i' := 10) (lv' := [some (vR 200)]) (st' := [vI (S 5 - bcI (nI (bset (opn S (-1)) (sn S 5))))]) rfl ?_
  refine g_iret rfl ?_
  exact rfl

theorem s_107 {X : Nat × (Nat → Int32)} {d : Nat} {p : Nat → Nat} {sg : Mg} {B : Nat} {S : Nat → Int32} (hI : Inv B S) (hL : cwL 250 sg S) (hD : cwD 200 sg S) : gF X (d + 2) 107 [vR 200] p sg (fun r => r = gRv p sg (nI (cnt (dnP S) (sn S 5)))) := by
  have b5 := hI.b5
  refine gF_mono (s_107r hI hL hD) (fun r hr => hr.trans (congrArg (gRv p sg) ?_))
  have h := cnt_le (opn S (-1)) (sn S 5)
  rw [bcI_bset (by omega), hI.c5, g_sub rfl rfl h, opn_cnt hI]

theorem s_258r {X : Nat × (Nat → Int32)} {d : Nat} {p : Nat → Nat} {sg : Mg} {B : Nat} {S : Nat → Int32} (hI : Inv B S) (hS : sg 801 = S) {k : Nat} (u_k : k ≤ 7) (q1 : k < sn S 5) : gF X (d + 2) 258 [vR 800, vI (nI k)] p sg (fun r => r = gRv p sg (if ¬ (S (269 + 5 * k + 3) < 0) then 1 else 0)) := by
  have b0 := hI.b0; have b1 := hI.b1; have b2 := hI.b2; have b3 := hI.b3; have b4 := hI.b4; have b5 := hI.b5; have b6 := hI.b6; have b8 := hI.b8; have b9 := hI.b9; have b14 := hI.b14
  refine g_in (cd := k_258) (nL := 2) (rc := 13) rfl (g_A (a := 800) (kd := 0) (n := 12) rfl (by decide)) (g_c1 rfl) ?_
  show gW X (d + 1) k_258 0 [some (vR 800), some (vI (nI k))] [] p sg _
  refine g_pure 3 (i' := 3) (lv' := [some (vR 800), some (vI (nI k))]) (st' := [vI 3, vI (nI k), vR 800]) rfl ?_
  refine gW_eq (st' := [vI (nI 3), vI (nI k), vR 800]) rfl (by rw [(show (3 : Int32) = nI 3 from rfl)]) rfl ?_
  refine g_cV1 rfl (args := [vR 800, vI (nI k), vI (nI 3)]) (rest := []) rfl rfl rfl (s_245 (d := d) hS (by omega) (by omega)) ?_
  refine g_if1 (i' := 7) (P := S (269 + 5 * k + 3) < 0) rfl rfl Iff.rfl (fun h1 => ?_) (fun h1 => ?_)
  · refine g_pure 1 (i' := 8) (lv' := [some (vR 800), some (vI (nI k))]) (st' := [vI 0]) rfl ?_
    refine g_bret rfl g_nar0 ?_
    exact (congrArg (gRv p sg) (if_neg (fun n9 => n9 h1)).symm)
  · refine g_pure 2 (i' := 8) (lv' := [some (vR 800), some (vI (nI k))]) (st' := [vI 1]) rfl ?_
    refine g_bret rfl g_nar1 ?_
    exact (congrArg (gRv p sg) (if_pos h1).symm)

theorem s_258 {X : Nat × (Nat → Int32)} {d : Nat} {p : Nat → Nat} {sg : Mg} {B : Nat} {S : Nat → Int32} (hI : Inv B S) (hS : sg 801 = S) {k : Nat} (hk : k < sn S 5) : gF X (d + 2) 258 [vR 800, vI (nI k)] p sg (fun r => r = gRv p sg (if dnP S k = true then 1 else 0)) := by
  have b5 := hI.b5
  refine gF_mono (s_258r hI hS (by omega) hk) (fun r hr => hr.trans (congrArg (gRv p sg) (g_ite ?_)))
  unfold dnP
  rw [decide_eq_true_iff]
  exact Int32.not_lt

theorem b_259_0 {X : Nat × (Nat → Int32)} {d : Nat} {p : Nat → Nat} {sg : Mg} {Q : am_R → Prop} {B : Nat} {S : Nat → Int32} (hI : Inv B S) (hS : sg 801 = S)
    (o1 : gW X (d + 2) k_259 4 [some (vR 800), some (vI 0), some (vI 0)] [] p sg Q) :
    gW X (d + 2) k_259 0 [some (vR 800), none, none] [] p sg Q := by
  have b0 := hI.b0; have b1 := hI.b1; have b2 := hI.b2; have b3 := hI.b3; have b4 := hI.b4; have b5 := hI.b5; have b6 := hI.b6; have b8 := hI.b8; have b9 := hI.b9; have b14 := hI.b14
  refine g_pure 4 (i' := 4) (lv' := [some (vR 800), some (vI 0), some (vI 0)]) (st' := []) rfl ?_
  exact o1

theorem b_259_4 {X : Nat × (Nat → Int32)} {d : Nat} {p : Nat → Nat} {sg : Mg} {Q : am_R → Prop} {B : Nat} {S : Nat → Int32} (hI : Inv B S) (hS : sg 801 = S) {c : Nat} {j : Nat} (u_c : c ≤ 8) (u_j : j ≤ 8)
    (o1 : (sn S 5 ≤ j) → Q (gRv p sg (nI c)))
    (o2 : (¬ (sn S 5 ≤ j)) → (¬ (dnP S j = true)) → gW X (d + 2) k_259 4 [some (vR 800), some (vI (nI c)), some (vI (nI (j + 1)))] [] p sg Q)
    (o3 : (¬ (sn S 5 ≤ j)) → ((dnP S j = true)) → gW X (d + 2) k_259 4 [some (vR 800), some (vI (nI (c + 1))), some (vI (nI (j + 1)))] [] p sg Q) :
    gW X (d + 2) k_259 4 [some (vR 800), some (vI (nI c)), some (vI (nI j))] [] p sg Q := by
  have b0 := hI.b0; have b1 := hI.b1; have b2 := hI.b2; have b3 := hI.b3; have b4 := hI.b4; have b5 := hI.b5; have b6 := hI.b6; have b8 := hI.b8; have b9 := hI.b9; have b14 := hI.b14
  refine g_pure 4 (i' := 8) (lv' := [some (vR 800), some (vI (nI c)), some (vI (nI j))]) (st' := [vI 5, vR 801, vI (nI j)]) rfl ?_
  refine g_ald rfl (g_A (a := 801) (kd := 1) (n := 2407) rfl (by decide)) (by decide) (show 5 = nI 5 from (show (5 : Int32) = nI 5 from rfl)) (by decide) (show _ = S 5 from (congrFun hS 5)) ?_
  refine g_if2 (i' := 22) (P := sn S 5 ≤ j) rfl rfl (g_geN (show nI j = nI j from (rfl : nI j = nI j)) (show S 5 = nI (sn S 5) from (hI.c5)) (by omega) (by omega)) (fun h1 => ?_) (fun h1 => ?_)
  · refine g_pure 1 (i' := 23) (lv' := [some (vR 800), some (vI (nI c)), some (vI (nI j))]) (st' := [vI (nI c)]) rfl ?_
    refine g_iret rfl ?_
    exact o1 h1
  · refine g_pure 3 (i' := 13) (lv' := [some (vR 800), some (vI (nI c)), some (vI (nI j))]) (st' := [vI (nI j), vR 800, vI (nI c)]) rfl ?_
    refine g_cV1 rfl (args := [vR 800, vI (nI j)]) (rest := [vI (nI c)]) rfl rfl rfl (s_258 (d := d) hI hS (by omega)) ?_
    refine g_if1 (i' := 17) (P := ¬ (dnP S j = true)) rfl rfl g_eqB (fun h2 => ?_) (fun h2 => ?_)
    · refine g_pure 5 (i' := 4) (lv' := [some (vR 800), some (vI (nI c + 0)), some (vI (nI j + 1))]) (st' := []) rfl ?_
      refine gW_eq (lv' := [some (vR 800), some (vI (nI c)), some (vI (nI (j + 1)))]) (st' := []) (by rw [(show (nI c + 0) = nI c from ((g_add (rfl : nI c = nI c) (show (0 : Int32) = nI 0 from rfl))).trans (congrArg nI (by omega))), (show (nI j + 1) = nI (j + 1) from ((g_add (rfl : nI j = nI j) (show (1 : Int32) = nI 1 from rfl))).trans (congrArg nI (by omega)))]) rfl rfl ?_
      exact o2 h1 h2
    · have h2 := Classical.not_not.mp h2
      refine g_pure 6 (i' := 4) (lv' := [some (vR 800), some (vI (nI c + 1)), some (vI (nI j + 1))]) (st' := []) rfl ?_
      refine gW_eq (lv' := [some (vR 800), some (vI (nI (c + 1))), some (vI (nI (j + 1)))]) (st' := []) (by rw [(show (nI c + 1) = nI (c + 1) from ((g_add (rfl : nI c = nI c) (show (1 : Int32) = nI 1 from rfl))).trans (congrArg nI (by omega))), (show (nI j + 1) = nI (j + 1) from ((g_add (rfl : nI j = nI j) (show (1 : Int32) = nI 1 from rfl))).trans (congrArg nI (by omega)))]) rfl rfl ?_
      exact o3 h1 h2

theorem l_259_4 {X : Nat × (Nat → Int32)} {d : Nat} {p : Nat → Nat} {sg : Mg} {Q : am_R → Prop} {B : Nat} {S : Nat → Int32} (hI : Inv B S) (hS : sg 801 = S)  
    (x1 : Q (gRv p sg (nI (cnt (dnP S) (sn S 5))))) :
    gW X (d + 2) k_259 4 [some (vR 800), some (vI (nI (cnt (dnP S) 0))), some (vI (nI 0))] [] p sg Q := by
  have b0 := hI.b0; have b1 := hI.b1; have b2 := hI.b2; have b3 := hI.b3; have b4 := hI.b4; have b5 := hI.b5; have b6 := hI.b6; have b8 := hI.b8; have b9 := hI.b9; have b14 := hI.b14
  refine g_upI (P := fun j => gW X (d + 2) k_259 4 [some (vR 800), some (vI (nI (cnt (dnP S) j))), some (vI (nI j))] [] p sg Q) (I := fun j => True) (n := sn S 5) (a := 0) (by omega) trivial (fun j hj0 hj hi ih => ?_) (fun hi => ?_)
  · have ih : True → gW X (d + 2) k_259 4 [some (vR 800), some (vI (nI (cnt (dnP S) (j + 1)))), some (vI (nI (j + 1)))] [] p sg Q := ih
    have := cnt_le (dnP S) j
    exact b_259_4 hI hS (by omega) (by omega) (fun h1 => by omega) (fun h1 h2 => by rw [show ((nI (cnt (dnP S) j)) : Int32) = (nI (cnt (dnP S) (j + 1))) from by simp [cnt, *]]; exact ih trivial) (fun h1 h2 => by rw [show ((nI ((cnt (dnP S) j) + 1)) : Int32) = (nI (cnt (dnP S) (j + 1))) from by simp [cnt, *]]; exact ih trivial)
  · have := cnt_le (dnP S) (sn S 5)
    exact b_259_4 hI hS (by omega) (by omega) (fun _ => x1) (fun h1 h2 => by omega) (fun h1 h2 => by omega)

theorem s_259 {X : Nat × (Nat → Int32)} {d : Nat} {p : Nat → Nat} {sg : Mg} {B : Nat} {S : Nat → Int32} (hI : Inv B S) (hS : sg 801 = S) : gF X (d + 3) 259 [vR 800] p sg (fun r => r = gRv p sg (nI (cnt (dnP S) (sn S 5)))) := g_in (cd := k_259) (nL := 3) (rc := 13) rfl (g_A (a := 800) (kd := 0) (n := 12) rfl (by decide)) (g_c1 rfl) (b_259_0 hI hS (l_259_4 hI hS rfl))

theorem b_136_255 {X : Nat × (Nat → Int32)} {d : Nat} {p : Nat → Nat} {sg : Mg} {Q : am_R → Prop} {B : Nat} {S : Nat → Int32} (hI : Inv B S) (hL : cwL 250 sg S) (hD : cwD 200 sg S) {n : Nat} (u_n : n ≤ 8)
    (o1 : gW X (d) k_136 4 [some (vR 255), some (vI (nI n)), some (vI 0), some (vI 0)] [] p sg Q) :
    gW X (d) k_136 0 [some (vR 255), some (vI (nI n)), none, none] [] p sg Q := by
  have b0 := hI.b0; have b1 := hI.b1; have b2 := hI.b2; have b3 := hI.b3; have b4 := hI.b4; have b5 := hI.b5; have b6 := hI.b6; have b8 := hI.b8; have b9 := hI.b9; have b14 := hI.b14
  refine g_pure 4 (i' := 4) (lv' := [some (vR 255), some (vI (nI n)), some (vI 0), some (vI 0)]) (st' := []) rfl ?_
  exact o1

theorem b_l_136_255 {X : Nat × (Nat → Int32)} {d : Nat} {p : Nat → Nat} {sg : Mg} {Q : am_R → Prop} {B : Nat} {S : Nat → Int32} (hI : Inv B S) (hL : cwL 250 sg S) (hD : cwD 200 sg S) {n : Nat} {t : Int32} {j : Nat} (u_n : n ≤ 8) (u_j : j ≤ 8)
    (o1 : (n ≤ j) → Q (gRv p sg t))
    (o2 : (¬ (n ≤ j)) → gW X (d) k_136 4 [some (vR 255), some (vI (nI n)), some (vI (t + S (113 + 6 * j + 3))), some (vI (nI (j + 1)))] [] p sg Q) :
    gW X (d) k_136 4 [some (vR 255), some (vI (nI n)), some (vI t), some (vI (nI j))] [] p sg Q := by
  have b0 := hI.b0; have b1 := hI.b1; have b2 := hI.b2; have b3 := hI.b3; have b4 := hI.b4; have b5 := hI.b5; have b6 := hI.b6; have b8 := hI.b8; have b9 := hI.b9; have b14 := hI.b14
  refine g_pure 2 (i' := 6) (lv' := [some (vR 255), some (vI (nI n)), some (vI t), some (vI (nI j))]) (st' := [vI (nI n), vI (nI j)]) rfl ?_
  refine g_if2 (i' := 19) (P := n ≤ j) rfl rfl (g_geN (show nI j = nI j from (rfl : nI j = nI j)) (show nI n = nI n from (rfl : nI n = nI n)) (by omega) (by omega)) (fun h1 => ?_) (fun h1 => ?_)
  · refine g_pure 1 (i' := 20) (lv' := [some (vR 255), some (vI (nI n)), some (vI t), some (vI (nI j))]) (st' := [vI t]) rfl ?_
    refine g_iret rfl ?_
    exact o1 h1
  · refine g_pure 2 (i' := 9) (lv' := [some (vR 255), some (vI (nI n)), some (vI t), some (vI (nI j))]) (st' := [vR 255, vI (nI j)]) rfl ?_
    refine g_len rfl (by decide) (by decide) (g_A (a := 255) (kd := 1) (n := 8) rfl (by decide)) ?_
    refine gW_eq (lv' := [some (vR 255), some (vI (nI n)), some (vI t), some (vI (nI j))]) (st' := [vI 8, vI (nI j)]) rfl (by rw [(show (nI 8 : Int32) = 8 from rfl)]) rfl ?_
    refine g_if2 (i' := 19) (P := 8 ≤ j) rfl rfl (g_geN (show nI j = nI j from (rfl : nI j = nI j)) (show 8 = nI 8 from (show (8 : Int32) = nI 8 from rfl)) (by omega) (by omega)) (fun h2 => absurd h2 (by omega)) (fun _ => ?_)
    refine g_pure 3 (i' := 14) (lv' := [some (vR 255), some (vI (nI n)), some (vI t), some (vI (nI j))]) (st' := [vI (nI j), vR 255, vI t]) rfl ?_
    refine g_ald rfl (g_A (a := 255) (kd := 1) (n := 8) rfl (by decide)) (by decide) (show nI j = nI j from (rfl : nI j = nI j)) (by omega) (show _ = S (113 + 6 * j + 3) from (hL.per 3 (by decide) (by omega))) ?_
    refine g_pure 4 (i' := 4) (lv' := [some (vR 255), some (vI (nI n)), some (vI (t + S (113 + 6 * j + 3))), some (vI (nI j + 1))]) (st' := []) rfl ?_
    refine gW_eq (lv' := [some (vR 255), some (vI (nI n)), some (vI (t + S (113 + 6 * j + 3))), some (vI (nI (j + 1)))]) (st' := []) (by rw [(show (nI j + 1) = nI (j + 1) from ((g_add (rfl : nI j = nI j) (show (1 : Int32) = nI 1 from rfl))).trans (congrArg nI (by omega)))]) rfl rfl ?_
    exact o2 h1

theorem l_136_255 {X : Nat × (Nat → Int32)} {d : Nat} {p : Nat → Nat} {sg : Mg} {Q : am_R → Prop} {B : Nat} {S : Nat → Int32} (hI : Inv B S) (hL : cwL 250 sg S) (hD : cwD 200 sg S) {n : Nat} (u_n : n ≤ 8) 
    (x1 : Q (gRv p sg (sumI (fun j9 => S (113 + 6 * j9 + 3)) n))) :
    gW X (d) k_136 4 [some (vR 255), some (vI (nI n)), some (vI (sumI (fun j9 => S (113 + 6 * j9 + 3)) 0)), some (vI (nI 0))] [] p sg Q := by
  have b0 := hI.b0; have b1 := hI.b1; have b2 := hI.b2; have b3 := hI.b3; have b4 := hI.b4; have b5 := hI.b5; have b6 := hI.b6; have b8 := hI.b8; have b9 := hI.b9; have b14 := hI.b14
  refine g_upI (P := fun j => gW X (d) k_136 4 [some (vR 255), some (vI (nI n)), some (vI (sumI (fun j9 => S (113 + 6 * j9 + 3)) j)), some (vI (nI j))] [] p sg Q) (I := fun j => True) (n := n) (a := 0) (by omega) trivial (fun j hj0 hj hi ih => ?_) (fun hi => ?_)
  · have ih : True → gW X (d) k_136 4 [some (vR 255), some (vI (nI n)), some (vI (sumI (fun j9 => S (113 + 6 * j9 + 3)) (j + 1))), some (vI (nI (j + 1)))] [] p sg Q := ih
    exact b_l_136_255 hI hL hD (by omega) (by omega) (fun h1 => by omega) (fun h1 => by rw [show (((sumI (fun j9 => S (113 + 6 * j9 + 3)) j) + S (113 + 6 * j + 3)) : Int32) = (sumI (fun j9 => S (113 + 6 * j9 + 3)) (j + 1)) from by rfl]; exact ih trivial)
  · exact b_l_136_255 hI hL hD (by omega) (by omega) (fun _ => x1) (fun h1 => by omega)

theorem s_136_255 {X : Nat × (Nat → Int32)} {d : Nat} {p : Nat → Nat} {sg : Mg} {B : Nat} {S : Nat → Int32} (hI : Inv B S) (hL : cwL 250 sg S) (hD : cwD 200 sg S) {n : Nat} (hn : n ≤ 8) : gF X (d + 1) 136 [vR 255, vI (nI n)] p sg (fun r => r = gRv p sg (sumI (fun j => S (113 + 6 * j + 3)) n)) := g_in (cd := k_136) (nL := 4) (rc := 0) rfl trivial (g_c1 rfl) (b_136_255 hI hL hD hn (l_136_255 hI hL hD hn rfl))

theorem b_136_258 {X : Nat × (Nat → Int32)} {d : Nat} {p : Nat → Nat} {sg : Mg} {Q : am_R → Prop} {B : Nat} {S : Nat → Int32} (hI : Inv B S) (hL : cwL 250 sg S) (hD : cwD 200 sg S) {n : Nat} (u_n : n ≤ 8)
    (o1 : gW X (d) k_136 4 [some (vR 258), some (vI (nI n)), some (vI 0), some (vI 0)] [] p sg Q) :
    gW X (d) k_136 0 [some (vR 258), some (vI (nI n)), none, none] [] p sg Q := by
  have b0 := hI.b0; have b1 := hI.b1; have b2 := hI.b2; have b3 := hI.b3; have b4 := hI.b4; have b5 := hI.b5; have b6 := hI.b6; have b8 := hI.b8; have b9 := hI.b9; have b14 := hI.b14
  refine g_pure 4 (i' := 4) (lv' := [some (vR 258), some (vI (nI n)), some (vI 0), some (vI 0)]) (st' := []) rfl ?_
  exact o1

theorem b_l_136_258 {X : Nat × (Nat → Int32)} {d : Nat} {p : Nat → Nat} {sg : Mg} {Q : am_R → Prop} {B : Nat} {S : Nat → Int32} (hI : Inv B S) (hL : cwL 250 sg S) (hD : cwD 200 sg S) {n : Nat} {t : Int32} {j : Nat} (u_n : n ≤ 8) (u_j : j ≤ 8)
    (o1 : (n ≤ j) → Q (gRv p sg t))
    (o2 : (¬ (n ≤ j)) → gW X (d) k_136 4 [some (vR 258), some (vI (nI n)), some (vI (t + S (213 + 7 * j + 6))), some (vI (nI (j + 1)))] [] p sg Q) :
    gW X (d) k_136 4 [some (vR 258), some (vI (nI n)), some (vI t), some (vI (nI j))] [] p sg Q := by
  have b0 := hI.b0; have b1 := hI.b1; have b2 := hI.b2; have b3 := hI.b3; have b4 := hI.b4; have b5 := hI.b5; have b6 := hI.b6; have b8 := hI.b8; have b9 := hI.b9; have b14 := hI.b14
  refine g_pure 2 (i' := 6) (lv' := [some (vR 258), some (vI (nI n)), some (vI t), some (vI (nI j))]) (st' := [vI (nI n), vI (nI j)]) rfl ?_
  refine g_if2 (i' := 19) (P := n ≤ j) rfl rfl (g_geN (show nI j = nI j from (rfl : nI j = nI j)) (show nI n = nI n from (rfl : nI n = nI n)) (by omega) (by omega)) (fun h1 => ?_) (fun h1 => ?_)
  · refine g_pure 1 (i' := 20) (lv' := [some (vR 258), some (vI (nI n)), some (vI t), some (vI (nI j))]) (st' := [vI t]) rfl ?_
    refine g_iret rfl ?_
    exact o1 h1
  · refine g_pure 2 (i' := 9) (lv' := [some (vR 258), some (vI (nI n)), some (vI t), some (vI (nI j))]) (st' := [vR 258, vI (nI j)]) rfl ?_
    refine g_len rfl (by decide) (by decide) (g_A (a := 258) (kd := 1) (n := 8) rfl (by decide)) ?_
    refine gW_eq (lv' := [some (vR 258), some (vI (nI n)), some (vI t), some (vI (nI j))]) (st' := [vI 8, vI (nI j)]) rfl (by rw [(show (nI 8 : Int32) = 8 from rfl)]) rfl ?_
    refine g_if2 (i' := 19) (P := 8 ≤ j) rfl rfl (g_geN (show nI j = nI j from (rfl : nI j = nI j)) (show 8 = nI 8 from (show (8 : Int32) = nI 8 from rfl)) (by omega) (by omega)) (fun h2 => absurd h2 (by omega)) (fun _ => ?_)
    refine g_pure 3 (i' := 14) (lv' := [some (vR 258), some (vI (nI n)), some (vI t), some (vI (nI j))]) (st' := [vI (nI j), vR 258, vI t]) rfl ?_
    refine g_ald rfl (g_A (a := 258) (kd := 1) (n := 8) rfl (by decide)) (by decide) (show nI j = nI j from (rfl : nI j = nI j)) (by omega) (show _ = S (213 + 7 * j + 6) from (hL.mis (by omega))) ?_
    refine g_pure 4 (i' := 4) (lv' := [some (vR 258), some (vI (nI n)), some (vI (t + S (213 + 7 * j + 6))), some (vI (nI j + 1))]) (st' := []) rfl ?_
    refine gW_eq (lv' := [some (vR 258), some (vI (nI n)), some (vI (t + S (213 + 7 * j + 6))), some (vI (nI (j + 1)))]) (st' := []) (by rw [(show (nI j + 1) = nI (j + 1) from ((g_add (rfl : nI j = nI j) (show (1 : Int32) = nI 1 from rfl))).trans (congrArg nI (by omega)))]) rfl rfl ?_
    exact o2 h1

theorem l_136_258 {X : Nat × (Nat → Int32)} {d : Nat} {p : Nat → Nat} {sg : Mg} {Q : am_R → Prop} {B : Nat} {S : Nat → Int32} (hI : Inv B S) (hL : cwL 250 sg S) (hD : cwD 200 sg S) {n : Nat} (u_n : n ≤ 8) 
    (x1 : Q (gRv p sg (sumI (fun j9 => S (213 + 7 * j9 + 6)) n))) :
    gW X (d) k_136 4 [some (vR 258), some (vI (nI n)), some (vI (sumI (fun j9 => S (213 + 7 * j9 + 6)) 0)), some (vI (nI 0))] [] p sg Q := by
  have b0 := hI.b0; have b1 := hI.b1; have b2 := hI.b2; have b3 := hI.b3; have b4 := hI.b4; have b5 := hI.b5; have b6 := hI.b6; have b8 := hI.b8; have b9 := hI.b9; have b14 := hI.b14
  refine g_upI (P := fun j => gW X (d) k_136 4 [some (vR 258), some (vI (nI n)), some (vI (sumI (fun j9 => S (213 + 7 * j9 + 6)) j)), some (vI (nI j))] [] p sg Q) (I := fun j => True) (n := n) (a := 0) (by omega) trivial (fun j hj0 hj hi ih => ?_) (fun hi => ?_)
  · have ih : True → gW X (d) k_136 4 [some (vR 258), some (vI (nI n)), some (vI (sumI (fun j9 => S (213 + 7 * j9 + 6)) (j + 1))), some (vI (nI (j + 1)))] [] p sg Q := ih
    exact b_l_136_258 hI hL hD (by omega) (by omega) (fun h1 => by omega) (fun h1 => by rw [show (((sumI (fun j9 => S (213 + 7 * j9 + 6)) j) + S (213 + 7 * j + 6)) : Int32) = (sumI (fun j9 => S (213 + 7 * j9 + 6)) (j + 1)) from by rfl]; exact ih trivial)
  · exact b_l_136_258 hI hL hD (by omega) (by omega) (fun _ => x1) (fun h1 => by omega)

theorem s_136_258 {X : Nat × (Nat → Int32)} {d : Nat} {p : Nat → Nat} {sg : Mg} {B : Nat} {S : Nat → Int32} (hI : Inv B S) (hL : cwL 250 sg S) (hD : cwD 200 sg S) {n : Nat} (hn : n ≤ 8) : gF X (d + 1) 136 [vR 258, vI (nI n)] p sg (fun r => r = gRv p sg (sumI (fun j => S (213 + 7 * j + 6)) n)) := g_in (cd := k_136) (nL := 4) (rc := 0) rfl trivial (g_c1 rfl) (b_136_258 hI hL hD hn (l_136_258 hI hL hD hn rfl))

theorem s_128 {X : Nat × (Nat → Int32)} {d : Nat} {p : Nat → Nat} {sg : Mg} : gF X (d + 1) 128 [vR 0] p sg (fun r => r = gRv p sg (sg 1 5)) := by
  refine g_in (cd := k_128) (nL := 1) (rc := 12) rfl (g_A (a := 0) (kd := 0) (n := 11) rfl (by decide)) (g_c1 rfl) ?_
  show gW X (d) k_128 0 [some (vR 0)] [] p sg _
  refine g_pure 3 (i' := 3) (lv' := [some (vR 0)]) (st' := [vI (sg 1 5)]) rfl ?_
  refine g_iret rfl ?_
  exact rfl

theorem b_135_0 {X : Nat × (Nat → Int32)} {d : Nat} {p : Nat → Nat} {sg : Mg} {Q : am_R → Prop} {B : Nat} {S : Nat → Int32} (hI : Inv B S) (hL : cwL 250 sg S) (hD : cwD 200 sg S) {x : Int32}
    (o1 : (x < 0) → x = nI 6 → Q (gRv p sg (S 6)))
    (o2 : (x < 0) → x = nI 7 → Q (gRv p sg (sg 208 6)))
    (o3 : (x < 0) → x = nI 8 → Q (gRv p sg (S 8)))
    (o4 : (x < 0) → x = nI 9 → Q (gRv p sg (S 9)))
    (o5 : (x < 0) → x = nI 10 → Q (gRv p sg (S 10)))
    (o6 : (x < 0) → x = nI 11 → Q (gRv p sg (sumI (fun j => S (113 + 6 * j + 3)) (sn S 1))))
    (o7 : (x < 0) → x = nI 12 → Q (gRv p sg (S 11)))
    (o8 : (x < 0) → x = nI 13 → Q (gRv p sg (S 12)))
    (o9 : (x < 0) → x = nI 14 → Q (gRv p sg (S 13)))
    (o10 : (x < 0) → x = nI 15 → Q (gRv p sg (sumI (fun j => S (213 + 7 * j + 6)) (sn S 4))))
    (o11 : (x < 0) → x = nI 16 → Q (gRv p sg (nI (cnt (dnP S) (sn S 5)))))
    (o12 : (x < 0) → x = nI 17 → Q (gRv p sg (S 14)))
    (o13 : (x < 0) → x = nI 18 → Q (gRv p sg (S 15)))
    (o14 : (x < 0) → x = nI 19 → Q (gRv p sg (sg 0 11)))
    (o15 : (x < 0) → (¬ (¬ (x < 6) ∧ ¬ (19 < x))) → Q (gRv p sg (-1)))
    (o16 : (¬ (x < 0)) → (6 ≤ x) → x = nI 6 → Q (gRv p sg (S 6)))
    (o17 : (¬ (x < 0)) → (6 ≤ x) → x = nI 7 → Q (gRv p sg (sg 208 6)))
    (o18 : (¬ (x < 0)) → (6 ≤ x) → x = nI 8 → Q (gRv p sg (S 8)))
    (o19 : (¬ (x < 0)) → (6 ≤ x) → x = nI 9 → Q (gRv p sg (S 9)))
    (o20 : (¬ (x < 0)) → (6 ≤ x) → x = nI 10 → Q (gRv p sg (S 10)))
    (o21 : (¬ (x < 0)) → (6 ≤ x) → x = nI 11 → Q (gRv p sg (sumI (fun j => S (113 + 6 * j + 3)) (sn S 1))))
    (o22 : (¬ (x < 0)) → (6 ≤ x) → x = nI 12 → Q (gRv p sg (S 11)))
    (o23 : (¬ (x < 0)) → (6 ≤ x) → x = nI 13 → Q (gRv p sg (S 12)))
    (o24 : (¬ (x < 0)) → (6 ≤ x) → x = nI 14 → Q (gRv p sg (S 13)))
    (o25 : (¬ (x < 0)) → (6 ≤ x) → x = nI 15 → Q (gRv p sg (sumI (fun j => S (213 + 7 * j + 6)) (sn S 4))))
    (o26 : (¬ (x < 0)) → (6 ≤ x) → x = nI 16 → Q (gRv p sg (nI (cnt (dnP S) (sn S 5)))))
    (o27 : (¬ (x < 0)) → (6 ≤ x) → x = nI 17 → Q (gRv p sg (S 14)))
    (o28 : (¬ (x < 0)) → (6 ≤ x) → x = nI 18 → Q (gRv p sg (S 15)))
    (o29 : (¬ (x < 0)) → (6 ≤ x) → x = nI 19 → Q (gRv p sg (sg 0 11)))
    (o30 : (¬ (x < 0)) → (6 ≤ x) → (¬ (¬ (x < 6) ∧ ¬ (19 < x))) → Q (gRv p sg (-1)))
    (o31 : (¬ (x < 0)) → (¬ (6 ≤ x)) → ∃ k, x = nI k ∧ k < 6)
    (o32 : (¬ (x < 0)) → (¬ (6 ≤ x)) → ∀ k9 : Nat, x = nI k9 → k9 < 6 → Q (gRv p sg (S k9))) :
    gW X (d + 3) k_135 0 [some (vR 0), some (vI x)] [] p sg Q := by
  have b0 := hI.b0; have b1 := hI.b1; have b2 := hI.b2; have b3 := hI.b3; have b4 := hI.b4; have b5 := hI.b5; have b6 := hI.b6; have b8 := hI.b8; have b9 := hI.b9; have b14 := hI.b14
  refine g_pure 1 (i' := 1) (lv' := [some (vR 0), some (vI x)]) (st' := [vI x]) rfl ?_
  refine g_if1 (i' := 12) (P := x < 0) rfl rfl Iff.rfl (fun h1 => ?_) (fun h1 => ?_)
  · refine g_pure 1 (i' := 13) (lv' := [some (vR 0), some (vI x)]) (st' := [vI x]) rfl ?_
    by_cases h2 : (¬ (x < 6) ∧ ¬ (19 < x))
    · obtain ⟨n3, ln3, en3⟩ := okr_of (lo := 6) (hi := 19) (by decide) h2
      rcases (show n3 = 6 ∨ n3 = 7 ∨ n3 = 8 ∨ n3 = 9 ∨ n3 = 10 ∨ n3 = 11 ∨ n3 = 12 ∨ n3 = 13 ∨ n3 = 14 ∨ n3 = 15 ∨ n3 = 16 ∨ n3 = 17 ∨ n3 = 18 ∨ n3 = 19 by omega) with rfl | rfl | rfl | rfl | rfl | rfl | rfl | rfl | rfl | rfl | rfl | rfl | rfl | rfl
      · subst en3
        refine g_swK (i' := 14) (k := 6) rfl rfl (by decide) rfl ?_
        refine g_pure 3 (i' := 17) (lv' := [some (vR 0), some (vI (nI 6))]) (st' := [vR 202]) rfl ?_
        refine gW_eq (lv' := [some (vR 0), some (vI 6)]) (st' := [vR 202]) (by rw [(show (nI 6 : Int32) = 6 from rfl)]) rfl rfl ?_
        refine g_getI rfl (g_A (a := 202) (kd := 0) (n := 3) rfl (by decide)) (show _ = S 6 from hD.f8) ?_
        refine g_iret rfl ?_
        exact o1 h1 rfl
      · subst en3
        refine g_swK (i' := 19) (k := 7) rfl rfl (by decide) rfl ?_
        refine g_pure 4 (i' := 23) (lv' := [some (vR 0), some (vI (nI 7))]) (st' := [vI (sg 208 6)]) rfl ?_
        refine g_iret rfl ?_
        exact o2 h1 rfl
      · subst en3
        refine g_swK (i' := 24) (k := 8) rfl rfl (by decide) rfl ?_
        refine g_pure 3 (i' := 27) (lv' := [some (vR 0), some (vI (nI 8))]) (st' := [vR 250]) rfl ?_
        refine gW_eq (lv' := [some (vR 0), some (vI 8)]) (st' := [vR 250]) (by rw [(show (nI 8 : Int32) = 8 from rfl)]) rfl rfl ?_
        refine g_getI rfl (g_A (a := 250) (kd := 0) (n := 6) rfl (by decide)) (show _ = S 8 from hL.f12) ?_
        refine g_iret rfl ?_
        exact o3 h1 rfl
      · subst en3
        refine g_swK (i' := 29) (k := 9) rfl rfl (by decide) rfl ?_
        refine g_pure 3 (i' := 32) (lv' := [some (vR 0), some (vI (nI 9))]) (st' := [vR 202]) rfl ?_
        refine gW_eq (lv' := [some (vR 0), some (vI 9)]) (st' := [vR 202]) (by rw [(show (nI 9 : Int32) = 9 from rfl)]) rfl rfl ?_
        refine g_getI rfl (g_A (a := 202) (kd := 0) (n := 3) rfl (by decide)) (show _ = S 9 from hD.f5) ?_
        refine g_iret rfl ?_
        exact o4 h1 rfl
      · subst en3
        refine g_swK (i' := 34) (k := 10) rfl rfl (by decide) rfl ?_
        refine g_pure 3 (i' := 37) (lv' := [some (vR 0), some (vI (nI 10))]) (st' := [vR 202]) rfl ?_
        refine gW_eq (lv' := [some (vR 0), some (vI 10)]) (st' := [vR 202]) (by rw [(show (nI 10 : Int32) = 10 from rfl)]) rfl rfl ?_
        refine g_getI rfl (g_A (a := 202) (kd := 0) (n := 3) rfl (by decide)) (show _ = S 10 from hD.f6) ?_
        refine g_iret rfl ?_
        exact o5 h1 rfl
      · subst en3
        refine g_swK (i' := 39) (k := 11) rfl rfl (by decide) rfl ?_
        refine g_pure 9 (i' := 48) (lv' := [some (vR 0), some (vI (nI 11))]) (st' := [vI 1, vR 203, vR 255]) rfl ?_
        refine gW_eq (lv' := [some (vR 0), some (vI 11)]) (st' := [vI 1, vR 203, vR 255]) (by rw [(show (nI 11 : Int32) = 11 from rfl)]) rfl rfl ?_
        refine g_ald rfl (g_A (a := 203) (kd := 1) (n := 6) rfl (by decide)) (by decide) (show 1 = nI 1 from (show (1 : Int32) = nI 1 from rfl)) (by decide) (show _ = S 1 from (hD.cnt (by decide))) ?_
        refine gW_eq (st' := [vI (nI (sn S 1)), vR 255]) rfl (by rw [(show S 1 = nI (sn S 1) from (hI.c1))]) rfl ?_
        refine g_cS1 rfl (args := [vR 255, vI (nI (sn S 1))]) (rest := []) rfl rfl rfl (s_136_255 (d := d + 2) hI hL hD (by omega)) ?_
        refine g_iret rfl ?_
        exact o6 h1 rfl
      · subst en3
        refine g_swK (i' := 51) (k := 12) rfl rfl (by decide) rfl ?_
        refine g_pure 3 (i' := 54) (lv' := [some (vR 0), some (vI (nI 12))]) (st' := [vR 202]) rfl ?_
        refine gW_eq (lv' := [some (vR 0), some (vI 12)]) (st' := [vR 202]) (by rw [(show (nI 12 : Int32) = 12 from rfl)]) rfl rfl ?_
        refine g_getI rfl (g_A (a := 202) (kd := 0) (n := 3) rfl (by decide)) (show _ = S 11 from hD.f9) ?_
        refine g_iret rfl ?_
        exact o7 h1 rfl
      · subst en3
        refine g_swK (i' := 56) (k := 13) rfl rfl (by decide) rfl ?_
        refine g_pure 3 (i' := 59) (lv' := [some (vR 0), some (vI (nI 13))]) (st' := [vR 250]) rfl ?_
        refine gW_eq (lv' := [some (vR 0), some (vI 13)]) (st' := [vR 250]) (by rw [(show (nI 13 : Int32) = 13 from rfl)]) rfl rfl ?_
        refine g_getI rfl (g_A (a := 250) (kd := 0) (n := 6) rfl (by decide)) (show _ = S 12 from hL.f14) ?_
        refine g_iret rfl ?_
        exact o8 h1 rfl
      · subst en3
        refine g_swK (i' := 61) (k := 14) rfl rfl (by decide) rfl ?_
        refine g_pure 3 (i' := 64) (lv' := [some (vR 0), some (vI (nI 14))]) (st' := [vR 250]) rfl ?_
        refine gW_eq (lv' := [some (vR 0), some (vI 14)]) (st' := [vR 250]) (by rw [(show (nI 14 : Int32) = 14 from rfl)]) rfl rfl ?_
        refine g_getI rfl (g_A (a := 250) (kd := 0) (n := 6) rfl (by decide)) (show _ = S 13 from hL.f15) ?_
        refine g_iret rfl ?_
        exact o9 h1 rfl
      · subst en3
        refine g_swK (i' := 66) (k := 15) rfl rfl (by decide) rfl ?_
        refine g_pure 9 (i' := 75) (lv' := [some (vR 0), some (vI (nI 15))]) (st' := [vI 4, vR 203, vR 258]) rfl ?_
        refine gW_eq (lv' := [some (vR 0), some (vI 15)]) (st' := [vI 4, vR 203, vR 258]) (by rw [(show (nI 15 : Int32) = 15 from rfl)]) rfl rfl ?_
        refine g_ald rfl (g_A (a := 203) (kd := 1) (n := 6) rfl (by decide)) (by decide) (show 4 = nI 4 from (show (4 : Int32) = nI 4 from rfl)) (by decide) (show _ = S 4 from (hD.cnt (by decide))) ?_
        refine gW_eq (st' := [vI (nI (sn S 4)), vR 258]) rfl (by rw [(show S 4 = nI (sn S 4) from (hI.c4))]) rfl ?_
        refine g_cS1 rfl (args := [vR 258, vI (nI (sn S 4))]) (rest := []) rfl rfl rfl (s_136_258 (d := d + 2) hI hL hD (by omega)) ?_
        refine g_iret rfl ?_
        exact o10 h1 rfl
      · subst en3
        refine g_swK (i' := 78) (k := 16) rfl rfl (by decide) rfl ?_
        refine g_pure 2 (i' := 80) (lv' := [some (vR 0), some (vI (nI 16))]) (st' := [vR 200]) rfl ?_
        refine gW_eq (lv' := [some (vR 0), some (vI 16)]) (st' := [vR 200]) (by rw [(show (nI 16 : Int32) = 16 from rfl)]) rfl rfl ?_
        refine g_cV1 rfl (args := [vR 200]) (rest := []) rfl rfl rfl (s_107 (d := d + 1) hI hL hD) ?_
        have t4 := cnt_le (dnP S) (sn S 5)
        refine g_iret rfl ?_
        exact o11 h1 rfl
      · subst en3
        refine g_swK (i' := 82) (k := 17) rfl rfl (by decide) rfl ?_
        refine g_pure 3 (i' := 85) (lv' := [some (vR 0), some (vI (nI 17))]) (st' := [vR 250]) rfl ?_
        refine gW_eq (lv' := [some (vR 0), some (vI 17)]) (st' := [vR 250]) (by rw [(show (nI 17 : Int32) = 17 from rfl)]) rfl rfl ?_
        refine g_getI rfl (g_A (a := 250) (kd := 0) (n := 6) rfl (by decide)) (show _ = S 14 from hL.f11) ?_
        refine g_iret rfl ?_
        exact o12 h1 rfl
      · subst en3
        refine g_swK (i' := 87) (k := 18) rfl rfl (by decide) rfl ?_
        refine g_pure 3 (i' := 90) (lv' := [some (vR 0), some (vI (nI 18))]) (st' := [vR 202]) rfl ?_
        refine gW_eq (lv' := [some (vR 0), some (vI 18)]) (st' := [vR 202]) (by rw [(show (nI 18 : Int32) = 18 from rfl)]) rfl rfl ?_
        refine g_getI rfl (g_A (a := 202) (kd := 0) (n := 3) rfl (by decide)) (show _ = S 15 from hD.f7) ?_
        refine g_iret rfl ?_
        exact o13 h1 rfl
      · subst en3
        refine g_swK (i' := 92) (k := 19) rfl rfl (by decide) rfl ?_
        refine g_pure 2 (i' := 94) (lv' := [some (vR 0), some (vI (nI 19))]) (st' := [vI (sg 0 11)]) rfl ?_
        refine g_iret rfl ?_
        exact o14 h1 rfl
    · refine g_swD (i' := 95) rfl (okr_out (lo := 6) (hi := 19) (by decide) h2) rfl ?_
      refine g_pure 1 (i' := 96) (lv' := [some (vR 0), some (vI x)]) (st' := [vI (-1)]) rfl ?_
      refine g_iret rfl ?_
      exact o15 h1 h2
  · refine g_pure 2 (i' := 4) (lv' := [some (vR 0), some (vI x)]) (st' := [vI 6, vI x]) rfl ?_
    refine g_if2 (i' := 12) (P := 6 ≤ x) rfl rfl Iff.rfl (fun h5 => ?_) (fun h5 => ?_)
    · refine g_pure 1 (i' := 13) (lv' := [some (vR 0), some (vI x)]) (st' := [vI x]) rfl ?_
      by_cases h6 : (¬ (x < 6) ∧ ¬ (19 < x))
      · obtain ⟨n7, ln7, en7⟩ := okr_of (lo := 6) (hi := 19) (by decide) h6
        rcases (show n7 = 6 ∨ n7 = 7 ∨ n7 = 8 ∨ n7 = 9 ∨ n7 = 10 ∨ n7 = 11 ∨ n7 = 12 ∨ n7 = 13 ∨ n7 = 14 ∨ n7 = 15 ∨ n7 = 16 ∨ n7 = 17 ∨ n7 = 18 ∨ n7 = 19 by omega) with rfl | rfl | rfl | rfl | rfl | rfl | rfl | rfl | rfl | rfl | rfl | rfl | rfl | rfl
        · subst en7
          refine g_swK (i' := 14) (k := 6) rfl rfl (by decide) rfl ?_
          refine g_pure 3 (i' := 17) (lv' := [some (vR 0), some (vI (nI 6))]) (st' := [vR 202]) rfl ?_
          refine gW_eq (lv' := [some (vR 0), some (vI 6)]) (st' := [vR 202]) (by rw [(show (nI 6 : Int32) = 6 from rfl)]) rfl rfl ?_
          refine g_getI rfl (g_A (a := 202) (kd := 0) (n := 3) rfl (by decide)) (show _ = S 6 from hD.f8) ?_
          refine g_iret rfl ?_
          exact o16 h1 h5 rfl
        · subst en7
          refine g_swK (i' := 19) (k := 7) rfl rfl (by decide) rfl ?_
          refine g_pure 4 (i' := 23) (lv' := [some (vR 0), some (vI (nI 7))]) (st' := [vI (sg 208 6)]) rfl ?_
          refine g_iret rfl ?_
          exact o17 h1 h5 rfl
        · subst en7
          refine g_swK (i' := 24) (k := 8) rfl rfl (by decide) rfl ?_
          refine g_pure 3 (i' := 27) (lv' := [some (vR 0), some (vI (nI 8))]) (st' := [vR 250]) rfl ?_
          refine gW_eq (lv' := [some (vR 0), some (vI 8)]) (st' := [vR 250]) (by rw [(show (nI 8 : Int32) = 8 from rfl)]) rfl rfl ?_
          refine g_getI rfl (g_A (a := 250) (kd := 0) (n := 6) rfl (by decide)) (show _ = S 8 from hL.f12) ?_
          refine g_iret rfl ?_
          exact o18 h1 h5 rfl
        · subst en7
          refine g_swK (i' := 29) (k := 9) rfl rfl (by decide) rfl ?_
          refine g_pure 3 (i' := 32) (lv' := [some (vR 0), some (vI (nI 9))]) (st' := [vR 202]) rfl ?_
          refine gW_eq (lv' := [some (vR 0), some (vI 9)]) (st' := [vR 202]) (by rw [(show (nI 9 : Int32) = 9 from rfl)]) rfl rfl ?_
          refine g_getI rfl (g_A (a := 202) (kd := 0) (n := 3) rfl (by decide)) (show _ = S 9 from hD.f5) ?_
          refine g_iret rfl ?_
          exact o19 h1 h5 rfl
        · subst en7
          refine g_swK (i' := 34) (k := 10) rfl rfl (by decide) rfl ?_
          refine g_pure 3 (i' := 37) (lv' := [some (vR 0), some (vI (nI 10))]) (st' := [vR 202]) rfl ?_
          refine gW_eq (lv' := [some (vR 0), some (vI 10)]) (st' := [vR 202]) (by rw [(show (nI 10 : Int32) = 10 from rfl)]) rfl rfl ?_
          refine g_getI rfl (g_A (a := 202) (kd := 0) (n := 3) rfl (by decide)) (show _ = S 10 from hD.f6) ?_
          refine g_iret rfl ?_
          exact o20 h1 h5 rfl
        · subst en7
          refine g_swK (i' := 39) (k := 11) rfl rfl (by decide) rfl ?_
          refine g_pure 9 (i' := 48) (lv' := [some (vR 0), some (vI (nI 11))]) (st' := [vI 1, vR 203, vR 255]) rfl ?_
          refine gW_eq (lv' := [some (vR 0), some (vI 11)]) (st' := [vI 1, vR 203, vR 255]) (by rw [(show (nI 11 : Int32) = 11 from rfl)]) rfl rfl ?_
          refine g_ald rfl (g_A (a := 203) (kd := 1) (n := 6) rfl (by decide)) (by decide) (show 1 = nI 1 from (show (1 : Int32) = nI 1 from rfl)) (by decide) (show _ = S 1 from (hD.cnt (by decide))) ?_
          refine gW_eq (st' := [vI (nI (sn S 1)), vR 255]) rfl (by rw [(show S 1 = nI (sn S 1) from (hI.c1))]) rfl ?_
          refine g_cS1 rfl (args := [vR 255, vI (nI (sn S 1))]) (rest := []) rfl rfl rfl (s_136_255 (d := d + 2) hI hL hD (by omega)) ?_
          refine g_iret rfl ?_
          exact o21 h1 h5 rfl
        · subst en7
          refine g_swK (i' := 51) (k := 12) rfl rfl (by decide) rfl ?_
          refine g_pure 3 (i' := 54) (lv' := [some (vR 0), some (vI (nI 12))]) (st' := [vR 202]) rfl ?_
          refine gW_eq (lv' := [some (vR 0), some (vI 12)]) (st' := [vR 202]) (by rw [(show (nI 12 : Int32) = 12 from rfl)]) rfl rfl ?_
          refine g_getI rfl (g_A (a := 202) (kd := 0) (n := 3) rfl (by decide)) (show _ = S 11 from hD.f9) ?_
          refine g_iret rfl ?_
          exact o22 h1 h5 rfl
        · subst en7
          refine g_swK (i' := 56) (k := 13) rfl rfl (by decide) rfl ?_
          refine g_pure 3 (i' := 59) (lv' := [some (vR 0), some (vI (nI 13))]) (st' := [vR 250]) rfl ?_
          refine gW_eq (lv' := [some (vR 0), some (vI 13)]) (st' := [vR 250]) (by rw [(show (nI 13 : Int32) = 13 from rfl)]) rfl rfl ?_
          refine g_getI rfl (g_A (a := 250) (kd := 0) (n := 6) rfl (by decide)) (show _ = S 12 from hL.f14) ?_
          refine g_iret rfl ?_
          exact o23 h1 h5 rfl
        · subst en7
          refine g_swK (i' := 61) (k := 14) rfl rfl (by decide) rfl ?_
          refine g_pure 3 (i' := 64) (lv' := [some (vR 0), some (vI (nI 14))]) (st' := [vR 250]) rfl ?_
          refine gW_eq (lv' := [some (vR 0), some (vI 14)]) (st' := [vR 250]) (by rw [(show (nI 14 : Int32) = 14 from rfl)]) rfl rfl ?_
          refine g_getI rfl (g_A (a := 250) (kd := 0) (n := 6) rfl (by decide)) (show _ = S 13 from hL.f15) ?_
          refine g_iret rfl ?_
          exact o24 h1 h5 rfl
        · subst en7
          refine g_swK (i' := 66) (k := 15) rfl rfl (by decide) rfl ?_
          refine g_pure 9 (i' := 75) (lv' := [some (vR 0), some (vI (nI 15))]) (st' := [vI 4, vR 203, vR 258]) rfl ?_
          refine gW_eq (lv' := [some (vR 0), some (vI 15)]) (st' := [vI 4, vR 203, vR 258]) (by rw [(show (nI 15 : Int32) = 15 from rfl)]) rfl rfl ?_
          refine g_ald rfl (g_A (a := 203) (kd := 1) (n := 6) rfl (by decide)) (by decide) (show 4 = nI 4 from (show (4 : Int32) = nI 4 from rfl)) (by decide) (show _ = S 4 from (hD.cnt (by decide))) ?_
          refine gW_eq (st' := [vI (nI (sn S 4)), vR 258]) rfl (by rw [(show S 4 = nI (sn S 4) from (hI.c4))]) rfl ?_
          refine g_cS1 rfl (args := [vR 258, vI (nI (sn S 4))]) (rest := []) rfl rfl rfl (s_136_258 (d := d + 2) hI hL hD (by omega)) ?_
          refine g_iret rfl ?_
          exact o25 h1 h5 rfl
        · subst en7
          refine g_swK (i' := 78) (k := 16) rfl rfl (by decide) rfl ?_
          refine g_pure 2 (i' := 80) (lv' := [some (vR 0), some (vI (nI 16))]) (st' := [vR 200]) rfl ?_
          refine gW_eq (lv' := [some (vR 0), some (vI 16)]) (st' := [vR 200]) (by rw [(show (nI 16 : Int32) = 16 from rfl)]) rfl rfl ?_
          refine g_cV1 rfl (args := [vR 200]) (rest := []) rfl rfl rfl (s_107 (d := d + 1) hI hL hD) ?_
          have t8 := cnt_le (dnP S) (sn S 5)
          refine g_iret rfl ?_
          exact o26 h1 h5 rfl
        · subst en7
          refine g_swK (i' := 82) (k := 17) rfl rfl (by decide) rfl ?_
          refine g_pure 3 (i' := 85) (lv' := [some (vR 0), some (vI (nI 17))]) (st' := [vR 250]) rfl ?_
          refine gW_eq (lv' := [some (vR 0), some (vI 17)]) (st' := [vR 250]) (by rw [(show (nI 17 : Int32) = 17 from rfl)]) rfl rfl ?_
          refine g_getI rfl (g_A (a := 250) (kd := 0) (n := 6) rfl (by decide)) (show _ = S 14 from hL.f11) ?_
          refine g_iret rfl ?_
          exact o27 h1 h5 rfl
        · subst en7
          refine g_swK (i' := 87) (k := 18) rfl rfl (by decide) rfl ?_
          refine g_pure 3 (i' := 90) (lv' := [some (vR 0), some (vI (nI 18))]) (st' := [vR 202]) rfl ?_
          refine gW_eq (lv' := [some (vR 0), some (vI 18)]) (st' := [vR 202]) (by rw [(show (nI 18 : Int32) = 18 from rfl)]) rfl rfl ?_
          refine g_getI rfl (g_A (a := 202) (kd := 0) (n := 3) rfl (by decide)) (show _ = S 15 from hD.f7) ?_
          refine g_iret rfl ?_
          exact o28 h1 h5 rfl
        · subst en7
          refine g_swK (i' := 92) (k := 19) rfl rfl (by decide) rfl ?_
          refine g_pure 2 (i' := 94) (lv' := [some (vR 0), some (vI (nI 19))]) (st' := [vI (sg 0 11)]) rfl ?_
          refine g_iret rfl ?_
          exact o29 h1 h5 rfl
      · refine g_swD (i' := 95) rfl (okr_out (lo := 6) (hi := 19) (by decide) h6) rfl ?_
        refine g_pure 1 (i' := 96) (lv' := [some (vR 0), some (vI x)]) (st' := [vI (-1)]) rfl ?_
        refine g_iret rfl ?_
        exact o30 h1 h5 h6
    · refine g_pure 5 (i' := 10) (lv' := [some (vR 0), some (vI x)]) (st' := [vI x, vR 203]) rfl ?_
      obtain ⟨k9, ek9, lk9⟩ := o31 h1 h5
      refine g_ald rfl (g_A (a := 203) (kd := 1) (n := 6) rfl (by decide)) (by decide) (show x = nI k9 from ek9) (by omega) (show _ = S k9 from (hD.cnt (by omega))) ?_
      refine g_iret rfl ?_
      exact o32 h1 h5 k9 ek9 lk9
