/-! arithmetic of ints that the walk needs -/
theorem g_neg_iff (x : Int32) : x < 0 ↔ x.toBitVec.msb = true := by
  rw [Int32.lt_iff_toInt_lt, BitVec.msb_eq_toInt, decide_eq_true_eq]
  rfl
theorem g_xor_nn {m n : Nat} (hm : m < 2147483648) (hn : n < 2147483648) : 0 ≤ (nI m ^^^ nI n) := by
  have h : ¬ (nI m ^^^ nI n) < 0 := by
    rw [g_neg_iff, Int32.toBitVec_xor, BitVec.msb_xor]
    have h1 : ¬ (nI m).toBitVec.msb = true := fun h => nI_pos hm ((g_neg_iff _).mpr h)
    have h2 : ¬ (nI n).toBitVec.msb = true := fun h => nI_pos hn ((g_neg_iff _).mpr h)
    simp only [Bool.not_eq_true] at h1 h2
    rw [h1, h2]
    decide
  exact Int32.not_lt.mp h
theorem g_xor_neg {x : Int32} {n : Nat} (hx : x < 0) (hn : n < 2147483648) : ¬ 0 ≤ (x ^^^ nI n) := by
  have h : (x ^^^ nI n) < 0 := by
    rw [g_neg_iff, Int32.toBitVec_xor, BitVec.msb_xor, (g_neg_iff x).mp hx]
    have h2 : ¬ (nI n).toBitVec.msb = true := fun h => nI_pos hn ((g_neg_iff _).mpr h)
    simp only [Bool.not_eq_true] at h2
    rw [h2]
    rfl
  exact Int32.not_le.mpr h
theorem g_negI {m : Nat} (hm : m < 2147483648) : (-nI m).toInt = -(m : Int) := by
  rw [Int32.toInt_neg, nI_toInt hm]
  refine Int.bmod_eq_of_le ?_ ?_ <;> omega
theorem g_ndiv {m n : Nat} (h0 : 0 < n) (hm : m < 2147483648) (hn : n < 2147483648) : -nI m / nI n = -nI (m / n) := by
  apply Int32.toInt_inj.mp
  have h1 : m / n ≤ m := Nat.div_le_self m n
  rw [Int32.toInt_div, g_negI hm, nI_toInt hn, g_negI (by omega), Int.neg_tdiv, Int.tdiv_eq_ediv_of_nonneg (by omega)]
  rw [show ((m : Int) / (n : Int)) = ((m / n : Nat) : Int) from (Int.natCast_ediv m n).symm]
  generalize m / n = q at h1 ⊢
  refine Int.bmod_eq_of_le ?_ ?_ <;> omega
theorem g_nrem {m n : Nat} (h0 : 0 < n) (hm : m < 2147483648) (hn : n < 2147483648) : -nI m - -nI m / nI n * nI n = -nI (m % n) := by
  rw [g_ndiv h0 hm hn, Int32.neg_mul, g_mul rfl rfl, Int32.sub_eq_add_neg, Int32.neg_neg]
  have e : nI m = nI (m % n) + nI (m / n * n) := by
    rw [nI_add]
    congr 1
    have := Nat.div_add_mod m n
    rw [Nat.mul_comm] at this
    omega
  rw [e, Int32.neg_add, Int32.sub_add_cancel]
theorem g_sub_neg {a b : Nat} (h : a ≤ b) : nI a - nI b = -nI (b - a) := by
  have e : nI b = nI (b - a) + nI a := by rw [nI_add, Nat.sub_add_cancel h]
  rw [e, Int32.sub_eq_add_neg, Int32.neg_add, Int32.add_comm, Int32.sub_add_cancel]
theorem g_neg_lt {m : Nat} (h0 : 0 < m) (hm : m < 2147483648) : -nI m < 0 := by
  rw [Int32.lt_iff_toInt_lt, g_negI hm]
  show -(m : Int) < 0
  omega
theorem g_neg_eq0 {m : Nat} (hm : m < 2147483648) : -nI m = 0 ↔ m = 0 := by
  constructor
  · intro h
    have h1 := congrArg Int32.toInt h
    rw [g_negI hm] at h1
    have h1 : -(m : Int) = 0 := h1
    omega
  · rintro rfl
    decide
theorem g_negadd {m n : Nat} (h : m ≤ n) : -nI m + nI n = nI (n - m) := by
  rw [Int32.add_comm, ← Int32.sub_eq_add_neg, g_sub rfl rfl h]
/-- a number of a kind: from 0 to n - 1 -/
abbrev okx (x : Int32) (n : Nat) : Prop := ¬ x < 0 ∧ x.toNatClampNeg < n
theorem okx_of {x : Int32} {n : Nat} (h : okx x n) : ∃ k, k < n ∧ x = nI k := by
  obtain ⟨k, hk, rfl⟩ := nI_of h.1
  have h2 := h.2
  rw [nI_clamp hk] at h2
  exact ⟨k, h2, rfl⟩
theorem okx_nI {k n : Nat} (hk : k < 2147483648) : okx (nI k) n ↔ k < n := by
  unfold okx
  rw [nI_clamp hk]
  exact ⟨fun h => h.2, fun h => ⟨nI_pos hk, h⟩⟩
theorem okx_in {x y : Int32} {n : Nat} (hy : y = nI n) (hn : n < 2147483648) : (¬ (x < 0) ∧ ¬ (y - 1 < x)) ↔ okx x n := by
  subst hy
  constructor
  · rintro ⟨h1, h2⟩
    obtain ⟨k, hk, rfl⟩ := nI_of h1
    rw [okx_nI hk]
    rcases Nat.eq_zero_or_pos n with h0 | h0
    · subst h0
      exfalso
      apply h2
      rw [Int32.lt_iff_toInt_lt, nI_toInt hk, show nI 0 - 1 = -1 from by decide]
      show (-1 : Int) < _
      omega
    · rw [g_sub rfl (show (1 : Int32) = nI 1 from rfl) h0, nI_ltI (by omega) hk] at h2
      omega
  · intro h
    obtain ⟨k, hk, rfl⟩ := okx_of h
    refine ⟨h.1, ?_⟩
    rw [g_sub rfl (show (1 : Int32) = nI 1 from rfl) (by omega), nI_ltI (by omega) (by omega)]
    omega
theorem okx_lt {x y : Int32} {n : Nat} (hy : y = nI n) (hn : n < 2147483648) : (¬ (x < 0) ∧ x < y) ↔ okx x n := by
  subst hy
  constructor
  · rintro ⟨h1, h2⟩
    obtain ⟨k, hk, rfl⟩ := nI_of h1
    rw [nI_ltI hk hn] at h2
    exact (okx_nI hk).mpr h2
  · intro h
    obtain ⟨k, hk, rfl⟩ := okx_of h
    exact ⟨h.1, (nI_ltI (by omega) hn).mpr hk⟩
theorem okx_ge {x y : Int32} {n : Nat} (hy : y = nI n) (hn : n < 2147483648) : (¬ (x < 0) ∧ ¬ (y ≤ x)) ↔ okx x n := by
  rw [Int32.not_le]
  exact okx_lt hy hn
theorem okr_of {x a b : Int32} {lo hi : Nat} (ha : a = nI lo ∧ b = nI hi ∧ lo ≤ hi ∧ hi < 2147483648) (h : ¬ (x < a) ∧ ¬ (b < x)) : ∃ k, (lo ≤ k ∧ k ≤ hi) ∧ x = nI k := by
  obtain ⟨rfl, rfl, h1, h2⟩ := ha
  have h3 : ¬ x < 0 := by
    intro h9
    apply h.1
    rw [Int32.lt_iff_toInt_lt, nI_toInt (by omega)]
    rw [Int32.lt_iff_toInt_lt] at h9
    have h9 : x.toInt < 0 := h9
    omega
  obtain ⟨k, hk, rfl⟩ := nI_of h3
  rw [nI_ltI hk (by omega), nI_ltI h2 hk] at h
  exact ⟨k, by omega, rfl⟩
def bcI (x : Int32) : Int32 :=
  let x1 := x - ((x.toUInt32 >>> ((1 : Int32).toUInt32 &&& Int32.toUInt32 31)).toInt32 &&& 1431655765)
  let x2 := (x1 &&& 858993459) + ((x1.toUInt32 >>> ((2 : Int32).toUInt32 &&& Int32.toUInt32 31)).toInt32 &&& 858993459)
  let x3 := (x2 + (x2.toUInt32 >>> ((4 : Int32).toUInt32 &&& Int32.toUInt32 31)).toInt32) &&& 252645135
  let x4 := x3 + (x3.toUInt32 >>> ((8 : Int32).toUInt32 &&& Int32.toUInt32 31)).toInt32
  let x5 := x4 + (x4.toUInt32 >>> ((16 : Int32).toUInt32 &&& Int32.toUInt32 31)).toInt32
  x5 &&& 63
def popc : Nat → Nat → Nat
  | 0, _ => 0
  | f + 1, n => n % 2 + popc f (n / 2)
theorem bcI_nI : ∀ k, k < 512 → bcI (nI k) = nI (popc 9 k) := by decide +kernel
/-- the first from k on, of at most f, for which P -/
def fnd (P : Nat → Bool) : Nat → Nat → Nat
  | 0, k => k
  | f + 1, k => if P k then k else fnd P f (k + 1)
theorem fnd_spec (P : Nat → Bool) : ∀ f k, k ≤ fnd P f k ∧ fnd P f k ≤ k + f ∧ (∀ j, k ≤ j → j < fnd P f k → P j = false) ∧ (fnd P f k < k + f → P (fnd P f k) = true)
  | 0, k => ⟨Nat.le_refl _, Nat.le_refl _, fun j h1 h2 => by simp only [fnd] at h2; omega, fun h => by simp only [fnd] at h; omega⟩
  | f + 1, k => by
    simp only [fnd]
    cases h : P k
    · simp only [Bool.false_eq_true, if_false]
      obtain ⟨h1, h2, h3, h4⟩ := fnd_spec P f (k + 1)
      refine ⟨by omega, by omega, fun j hj hj2 => ?_, fun h9 => h4 (by omega)⟩
      rcases Nat.eq_or_lt_of_le hj with e | e
      · rw [← e]; exact h
      · exact h3 j e hj2
    · simp only [if_true]
      exact ⟨Nat.le_refl _, by omega, fun j h1 h2 => by omega, fun _ => h⟩
theorem fnd_eq {P : Nat → Bool} {f k m : Nat} (h1 : k ≤ m) (h2 : m < k + f) (h3 : P m = true) (h4 : ∀ j, k ≤ j → j < m → P j = false) : fnd P f k = m := by
  obtain ⟨a1, a2, a3, a4⟩ := fnd_spec P f k
  rcases Nat.lt_trichotomy (fnd P f k) m with h | h | h
  · have := a4 (by omega)
    rw [h4 _ a1 h] at this
    cases this
  · exact h
  · have := a3 m h1 h
    rw [h3] at this
    cases this
theorem g_pigeon : ∀ (n : Nat) (f : Nat → Nat), (∀ i, i < n → f i < n) → (∀ i j, i < n → j < n → f i = f j → i = j) → ∀ y, y < n → ∃ i, i < n ∧ f i = y
  | 0, _, _, _, y, hy => by omega
  | n + 1, f, h1, h2, y, hy => by
    by_cases hn : f n = n
    · have g1 : ∀ i, i < n → f i < n := fun i hi => by
        have a := h1 i (by omega)
        rcases Nat.lt_or_ge (f i) n with h | h
        · exact h
        · have : i = n := h2 i n (by omega) (by omega) (by omega)
          omega
      rcases Nat.eq_or_lt_of_le (Nat.le_of_lt_succ hy) with e | e
      · exact ⟨n, by omega, by rw [hn, e]⟩
      · obtain ⟨i, hi, e⟩ := g_pigeon n f g1 (fun i j hi hj => h2 i j (by omega) (by omega)) y e
        exact ⟨i, by omega, e⟩
    · have hm : f n < n := by have := h1 n (by omega); omega
      have k1 : ∀ i, i < n → (if f i = n then f n else f i) < n := fun i hi => by
        by_cases h : f i = n
        · rw [if_pos h]; exact hm
        · rw [if_neg h]; have := h1 i (by omega); omega
      have k2 : ∀ i j, i < n → j < n → (if f i = n then f n else f i) = (if f j = n then f n else f j) → i = j := fun i j hi hj e => by
        by_cases h : f i = n
        · by_cases h' : f j = n
          · exact h2 i j (by omega) (by omega) (by omega)
          · rw [if_pos h, if_neg h'] at e
            have := h2 n j (by omega) (by omega) e
            omega
        · by_cases h' : f j = n
          · rw [if_neg h, if_pos h'] at e
            have := h2 i n (by omega) (by omega) e
            omega
          · rw [if_neg h, if_neg h'] at e
            exact h2 i j (by omega) (by omega) e
      have key := g_pigeon n (fun i => if f i = n then f n else f i) k1 k2
      rcases Nat.eq_or_lt_of_le (Nat.le_of_lt_succ hy) with e | e
      · obtain ⟨i, hi, e2⟩ := key (f n) hm
        by_cases h : f i = n
        · exact ⟨i, by omega, by rw [h, e]⟩
        · rw [if_neg h] at e2
          have := h2 i n (by omega) (by omega) e2
          omega
      · obtain ⟨i, hi, e2⟩ := key y e
        by_cases h : f i = n
        · rw [if_pos h] at e2
          exact ⟨n, by omega, e2⟩
        · rw [if_neg h] at e2
          exact ⟨i, by omega, e2⟩
theorem g_ite {A B : Prop} {hA : Decidable A} {hB : Decidable B} (h : A ↔ B) : (@ite Int32 A hA 1 0) = @ite Int32 B hB 1 0 := by
  by_cases a : A
  · rw [if_pos a, if_pos (h.mp a)]
  · rw [if_neg a, if_neg (fun b => a (h.mpr b))]
