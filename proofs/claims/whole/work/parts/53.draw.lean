/-! DRAWS -/
def nxS (S : Nat → Int32) : Int32 := 1103515245 * S 16 + 12345
def dS (S : Nat → Int32) : Nat → Int32 := upd S 16 (nxS S)
def dv (x : Int32) : Nat := ((x.toBitVec >>> 16) &&& 32767#32).toNat
theorem bv_mask (i : Nat) : (32767#32).getLsbD i = decide (i < 15) := by
  by_cases h : i < 32
  · have h9 : ∀ i, i < 32 → (32767#32).getLsbD i = decide (i < 15) := by decide
    exact h9 i h
  · rw [BitVec.getLsbD_of_ge _ _ (by omega)]
    simp; omega
theorem dv_lt (x : Int32) : dv x < 32768 := by
  unfold dv
  rw [BitVec.toNat_and]
  exact Nat.lt_succ_of_le (Nat.and_le_right)
theorem nI_toNat (b : BitVec 32) : nI b.toNat = ⟨⟨b⟩⟩ := by
  apply bvI_inj
  rw [nI_bv]
  apply BitVec.eq_of_toNat_eq
  rw [BitVec.toNat_ofNat]
  exact Nat.mod_eq_of_lt b.isLt
theorem dv_u (x : Int32) : ((x : Int32).toUInt32 >>> ((16 : Int32).toUInt32 &&& Int32.toUInt32 31)).toInt32 &&& 32767 = nI (dv x) := by
  unfold dv
  rw [nI_toNat]
  apply bvI_inj
  rw [Int32.toBitVec_and]
  rfl
theorem dv_s (x : Int32) : (x >>> ((16 : Int32) &&& 31)) &&& 32767 = nI (dv x) := by
  unfold dv
  rw [nI_toNat]
  apply bvI_inj
  rw [Int32.toBitVec_and]
  show x.toBitVec.sshiftRight 16 &&& 32767#32 = (x.toBitVec >>> 16) &&& 32767#32
  apply BitVec.eq_of_getLsbD_eq
  intro i hi
  rw [BitVec.getLsbD_and, BitVec.getLsbD_and, bv_mask, BitVec.getLsbD_sshiftRight, BitVec.getLsbD_ushiftRight]
  by_cases h : i < 15
  · have h1 : 16 + i < 32 := by omega
    simp [h, hi, h1]
  · simp [h]
theorem Inv.drI {B : Nat} {S : Nat → Int32} (hI : Inv B S) : Inv B (dS S) := hI.free (by unfold freeI; omega)
theorem dS_ne {S : Nat → Int32} {i : Nat} (h : i ≠ 16) : dS S i = S i := upd_ne h
/-- two pages change their days -/
def swS (S : Nat → Int32) (v a b : Nat) : Nat → Int32 := upd (upd S (17 + 16 * v + a) (S (17 + 16 * v + b))) (17 + 16 * v + b) (S (17 + 16 * v + a))
theorem swS_ne {S : Nat → Int32} {v a b i : Nat} (h1 : i ≠ 17 + 16 * v + a) (h2 : i ≠ 17 + 16 * v + b) : swS S v a b i = S i := by
  unfold swS
  rw [upd_ne h2, upd_ne h1]
theorem swS_b {S : Nat → Int32} {v a b : Nat} : swS S v a b (17 + 16 * v + b) = S (17 + 16 * v + a) := upd_self
theorem swS_a {S : Nat → Int32} {v a b : Nat} : swS S v a b (17 + 16 * v + a) = S (17 + 16 * v + b) := by
  unfold swS
  by_cases e : a = b
  · subst e; rw [upd_self]
  · rw [upd_ne (by omega), upd_self]
/-- the page where a page's day came from -/
def swp (a b q : Nat) : Nat := if q = a then b else if q = b then a else q
theorem swp_inj {a b q r : Nat} (h : swp a b q = swp a b r) : q = r := by
  unfold swp at h
  split at h <;> split at h <;> (try split at h) <;> (try split at h) <;> omega
theorem swS_at {S : Nat → Int32} {v a b q : Nat} : swS S v a b (17 + 16 * v + q) = S (17 + 16 * v + swp a b q) := by
  unfold swp
  by_cases h1 : q = a
  · subst h1; rw [if_pos rfl]; exact swS_a
  · rw [if_neg h1]
    by_cases h2 : q = b
    · subst h2; rw [if_pos rfl]; exact swS_b
    · rw [if_neg h2]; exact swS_ne (by omega) (by omega)
theorem Inv.swI {B : Nat} {S : Nat → Int32} (hI : Inv B S) {v a b : Nat} (hv : v < sn S 0) (ha : a < sn S 9) (hb : b < sn S 9) : Inv B (swS S v a b) := by
  have b0 := hI.b0; have b9 := hI.b9
  have hlt : ∀ q, q < sn S 9 → swp a b q < sn S 9 := fun q hq => by unfold swp; split; exact hb; split; exact ha; exact hq
  refine hI.tabE (fun i hi => swS_ne (by omega) (by omega)) ⟨fun u q hu hq => ?_, fun u q r hu hq hr e => ?_⟩
  · rw [sn_eq (S := S) (swS_ne (by omega) (by omega))] at hu
    rw [sn_eq (S := S) (i := 9) (swS_ne (by omega) (by omega))] at hq ⊢
    by_cases e : u = v
    · subst e
      unfold isN sn
      rw [swS_at]
      exact hI.2.1.1 u _ hu (hlt q hq)
    · rw [isN_eq (S := S) (swS_ne (by omega) (by omega))]
      exact hI.2.1.1 u q hu hq
  · rw [sn_eq (S := S) (swS_ne (by omega) (by omega))] at hu
    rw [sn_eq (S := S) (i := 9) (swS_ne (by omega) (by omega))] at hq hr
    by_cases e2 : u = v
    · subst e2
      unfold sn at e
      rw [swS_at, swS_at] at e
      exact swp_inj (hI.2.1.2 u _ _ hu (hlt q hq) (hlt r hr) e)
    · rw [sn_eq (S := S) (i := 17 + 16 * u + q) (swS_ne (by omega) (by omega)), sn_eq (S := S) (i := 17 + 16 * u + r) (swS_ne (by omega) (by omega))] at e
      exact hI.2.1.2 u q r hu hq hr e
