/-! SETS AS BITS of a natural -/
theorem nI_bv (n : Nat) : (nI n).toBitVec = BitVec.ofNat 32 n := rfl
theorem bvI_inj {a b : Int32} (h : a.toBitVec = b.toBitVec) : a = b := Int32.toBitVec_inj.mp h
theorem nI_or (a b : Nat) : nI a ||| nI b = nI (a ||| b) := by
  apply bvI_inj
  rw [Int32.toBitVec_or, nI_bv, nI_bv, nI_bv]
  apply BitVec.eq_of_toNat_eq
  rw [BitVec.toNat_or, BitVec.toNat_ofNat, BitVec.toNat_ofNat, BitVec.toNat_ofNat, Nat.or_mod_two_pow]
theorem nI_and (a b : Nat) : nI a &&& nI b = nI (a &&& b) := by
  apply bvI_inj
  rw [Int32.toBitVec_and, nI_bv, nI_bv, nI_bv]
  apply BitVec.eq_of_toNat_eq
  rw [BitVec.toNat_and, BitVec.toNat_ofNat, BitVec.toNat_ofNat, BitVec.toNat_ofNat, Nat.and_mod_two_pow]
theorem nI_xor (a b : Nat) : nI a ^^^ nI b = nI (a ^^^ b) := by
  apply bvI_inj
  rw [Int32.toBitVec_xor, nI_bv, nI_bv, nI_bv]
  apply BitVec.eq_of_toNat_eq
  rw [BitVec.toNat_xor, BitVec.toNat_ofNat, BitVec.toNat_ofNat, BitVec.toNat_ofNat, Nat.xor_mod_two_pow]
theorem nI_shlA : ∀ k, k < 32 → (1 : Int32) <<< (nI k &&& 31) = nI (2 ^ k) := by decide +kernel
theorem nI_shl1 {k : Nat} (h : k < 32) : (1 : Int32) <<< (nI k &&& 31) = nI (2 ^ k) := nI_shlA k h
theorem nI_and31 {k : Nat} (h : k < 32) : nI k &&& 31 = nI k := by
  have h9 : ∀ k, k < 32 → nI k &&& 31 = nI k := by decide +kernel
  exact h9 k h
theorem nI_shr {a k : Nat} (ha : a < 2147483648) (hk : k < 32) : nI a >>> (nI k &&& 31) = nI (a >>> k) := by
  rw [nI_and31 hk]
  have h9 : ∀ k, k < 32 → ((nI k).toBitVec.smod 32).toNat = k := by decide +kernel
  apply bvI_inj
  show (nI a).toBitVec.sshiftRight' ((nI k).toBitVec.smod 32) = _
  have e : ((nI k).toBitVec.smod 32).toNat = k := h9 k hk
  show (nI a).toBitVec.sshiftRight ((nI k).toBitVec.smod 32).toNat = _
  rw [e, nI_bv]
  have hm : (BitVec.ofNat 32 a).msb = false := by
    rw [BitVec.msb_eq_decide, BitVec.toNat_ofNat]
    simp
    omega
  rw [BitVec.sshiftRight_eq_of_msb_false hm]
  apply BitVec.eq_of_toNat_eq
  have hb : a >>> k ≤ a := by rw [Nat.shiftRight_eq_div_pow]; exact Nat.div_le_self _ _
  rw [BitVec.toNat_ushiftRight, nI_bv, BitVec.toNat_ofNat, BitVec.toNat_ofNat, Nat.mod_eq_of_lt (by omega), Nat.mod_eq_of_lt (by omega)]
theorem nI_bit {a k : Nat} (ha : a < 2147483648) (hk : k < 32) : (nI a >>> (nI k &&& 31)) &&& 1 = if a.testBit k then 1 else 0 := by
  rw [nI_shr ha hk]
  show nI (a >>> k) &&& nI 1 = _
  rw [nI_and, Nat.testBit, Nat.and_comm 1]
  have h2 : (a >>> k) &&& 1 = 0 ∨ (a >>> k) &&& 1 = 1 := by
    rw [Nat.and_one_is_mod]; omega
  rcases h2 with h2 | h2 <;> rw [h2] <;> rfl
theorem nI_bit1 {a k : Nat} (ha : a < 2147483648) (hk : k < 32) : (nI a >>> (nI k &&& 31)) &&& 1 = 1 ↔ a.testBit k = true := by
  rw [nI_bit ha hk]
  cases a.testBit k <;> decide
theorem nI_bit0 {a k : Nat} (ha : a < 2147483648) (hk : k < 32) : (nI a >>> (nI k &&& 31)) &&& 1 = 0 ↔ a.testBit k = false := by
  rw [nI_bit ha hk]
  cases a.testBit k <;> decide
theorem nI_orbit {a k : Nat} (hk : k < 32) : nI a ||| (1 : Int32) <<< (nI k &&& 31) = nI (a ||| 2 ^ k) := by rw [nI_shl1 hk, nI_or]
theorem or_lt {a b n : Nat} (ha : a < 2 ^ n) (hb : b < 2 ^ n) : a ||| b < 2 ^ n := Nat.or_lt_two_pow ha hb
theorem pow_lt2 {k n : Nat} (h : k < n) : 2 ^ k < 2 ^ n := Nat.pow_lt_pow_right (by decide) h
/-- the set of all k below n with P -/
def bset (P : Nat → Bool) : Nat → Nat
  | 0 => 0
  | n + 1 => if P n then bset P n ||| 2 ^ n else bset P n
theorem bset_lt (P : Nat → Bool) : ∀ n, bset P n < 2 ^ n
  | 0 => Nat.zero_lt_one
  | n + 1 => by
    have h := bset_lt P n
    have h1 : 2 ^ n < 2 ^ (n + 1) := pow_lt2 (by omega)
    unfold bset
    split
    · exact or_lt (by omega) h1
    · omega
theorem bset_bit (P : Nat → Bool) : ∀ n k, (bset P n).testBit k = (decide (k < n) && P k)
  | 0, k => by simp [bset]
  | n + 1, k => by
    have ih := bset_bit P n k
    unfold bset
    by_cases hk : k = n
    · subst hk
      have h0 : (bset P k).testBit k = false := by rw [ih]; simp
      cases hp : P k <;> simp [Nat.testBit_or, h0, Nat.testBit_two_pow, hp]
    · have h1 : decide (k < n + 1) = decide (k < n) := by
        apply decide_eq_decide.mpr; omega
      have h2 : ¬ n = k := fun h => hk h.symm
      split <;> simp [Nat.testBit_or, ih, Nat.testBit_two_pow, h1, h2]
theorem bset_ext {P Q : Nat → Bool} {n : Nat} (h : ∀ k, k < n → P k = Q k) : bset P n = bset Q n := by
  apply Nat.eq_of_testBit_eq
  intro k
  rw [bset_bit, bset_bit]
  by_cases hk : k < n
  · rw [h k hk]
  · simp [hk]
/-! a tableswitch -/
section SW
variable {X : Nat × (Nat → Int32)} {d : Nat} {cd : List am_CE} {i : Nat} {lv : List (Option AV)} {st : List AV} {p : Nat → Nat} {sg : Mg} {Q : am_R → Prop}
theorem g_swK {off lo hi : Int} {offs : Array Int} {pc nx r1 r2 i' k : Nat} {x a : Int32} (h : cd.drop i = (pc, .tableswitch off lo hi offs, nx, r1, r2, x) :: cd.drop (i + 1)) (hk : a = nI k) (hin : lo ≤ (k : Int) ∧ (k : Int) ≤ hi ∧ k < 2147483648) (ht : am_seek ((pc : Int) + offs.getD ((k : Int) - lo).toNat 0).toNat cd = cd.drop i') (g : gW X d cd i' lv st p sg Q) : gW X d cd i lv (vI a :: st) p sg Q := by
  subst hk
  obtain ⟨h1, h2, h3⟩ := hin
  refine g_stp h ⟨fun h9 => ?_, fun _ => ?_⟩
  · rw [nI_toInt h3] at h9; omega
  · rw [nI_toInt h3, ht]; exact g
theorem g_swD {off lo hi : Int} {offs : Array Int} {pc nx r1 r2 i' : Nat} {x a : Int32} (h : cd.drop i = (pc, .tableswitch off lo hi offs, nx, r1, r2, x) :: cd.drop (i + 1)) (ho : a.toInt < lo ∨ hi < a.toInt) (ht : am_seek r1 cd = cd.drop i') (g : gW X d cd i' lv st p sg Q) : gW X d cd i lv (vI a :: st) p sg Q := by
  refine g_stp h ⟨fun _ => ?_, fun h9 => absurd ho h9⟩
  rw [ht]; exact g
end SW
theorem okr_out {x a b : Int32} {lo hi : Nat} (ha : a = nI lo ∧ b = nI hi ∧ lo ≤ hi ∧ hi < 2147483648) (h : ¬ (¬ (x < a) ∧ ¬ (b < x))) : x.toInt < (lo : Int) ∨ (hi : Int) < x.toInt := by
  obtain ⟨rfl, rfl, h1, h2⟩ := ha
  rw [Int32.lt_iff_toInt_lt, Int32.lt_iff_toInt_lt, nI_toInt (by omega), nI_toInt h2] at h
  omega
