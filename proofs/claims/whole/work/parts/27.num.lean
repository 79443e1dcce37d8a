/-! numbers in the walk -/
theorem g_c1 {args : List AV} (h : args.all (fun v => Nat.beq (am_cat v) 1) = true) : ∀ v ∈ args, am_cat v = 1 := fun v hv => Nat.eq_of_beq_eq_true (List.all_eq_true.mp h v hv)
theorem g_nz {b : Int32} {n : Nat} (hb : b = nI n) (h0 : 0 < n) (h : n < 2147483648) : ¬ b = 0 := by subst hb; exact nI_ne0 h0 h
theorem g_dec {a : Int32} {m : Nat} (ha : a = nI m) (h : 1 ≤ m) : a + -1 = nI (m - 1) := by
  subst ha
  obtain ⟨k, rfl⟩ : ∃ k, m = k + 1 := ⟨m - 1, by omega⟩
  rw [nI_succ]
  show nI k + 1 + -1 = nI (k + 1 - 1)
  rw [Int32.add_assoc]
  show nI k + 0 = nI k
  exact Int32.add_zero _
theorem g_divN {a b : Int32} {m n : Nat} (ha : a = nI m) (hb : b = nI n) (h0 : 0 < n) (hm : m < 2147483648) (hn : n < 2147483648) : a / b = nI (m / n) := by
  subst ha hb
  apply Int32.toInt_inj.mp
  have h1 : m / n ≤ m := Nat.div_le_self m n
  rw [Int32.toInt_div, nI_toInt hm, nI_toInt hn, nI_toInt (Nat.lt_of_le_of_lt h1 hm), Int.tdiv_eq_ediv_of_nonneg (by omega)]
  rw [show ((m : Int) / (n : Int)) = ((m / n : Nat) : Int) from (Int.natCast_ediv m n).symm]
  generalize m / n = q at h1 ⊢
  refine Int.bmod_eq_of_le ?_ ?_ <;> omega
theorem g_modN {a b : Int32} {m n : Nat} (ha : a = nI m) (hb : b = nI n) (h0 : 0 < n) (hm : m < 2147483648) (hn : n < 2147483648) : a - a / b * b = nI (m % n) := by
  rw [g_sub ha (g_mul (g_divN ha hb h0 hm hn) hb) (Nat.div_mul_le_self m n)]
  congr 1
  rw [Nat.mul_comm]
  exact Nat.sub_eq_of_eq_add (by have := Nat.div_add_mod m n; omega)
