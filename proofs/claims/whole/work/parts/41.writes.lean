/-! WRITES to the class's cells, and to the numbers S -/
theorem sn_upd {S : Nat → Int32} {i j : Nat} {x : Int32} (h : j ≠ i) : sn (upd S i x) j = sn S j := by
  unfold sn
  rw [upd_ne h]
theorem sn_upd_self {S : Nat → Int32} {i n : Nat} (h : n < 2147483648) : sn (upd S i (nI n)) i = n := by
  unfold sn
  rw [upd_self, nI_clamp h]
theorem isN_upd {S : Nat → Int32} {i j n : Nat} {x : Int32} (h : j ≠ i) : isN (upd S i x) j n ↔ isN S j n := by
  unfold isN
  rw [sn_upd h, upd_ne h]
theorem isN_self {S : Nat → Int32} {i n m : Nat} (h : m < n) (hn : n < 2147483648) : isN (upd S i (nI m)) i n := by
  unfold isN
  rw [sn_upd_self (by omega), upd_self]
  exact ⟨rfl, h⟩
section WR
variable {l w : Nat} {sg : Mg} {S : Nat → Int32} {x : Int32}
/-- a number of a person -/
theorem cwL.wper (h : cwL l sg S) {j k : Nat} (hj : j < 6) (hk : k < 8) : cwL l (mu sg (l + 2 + j) k x) (upd S (113 + 6 * k + j) x) := by
  refine ⟨fun v q hv hq => ?_, fun j' k' hj' hk' => ?_, fun k' hk' => ?_, fun j' k' hj' hk' => ?_, ⟨?_, ?_, ?_, ?_, ?_⟩, fun k' j' hk' hj' => ?_⟩
  · rw [mu_ne (by omega), upd_ne (by omega)]; exact h.tab hv hq
  · by_cases e : j' = j
    · subst e
      by_cases e2 : k' = k
      · subst e2; rw [mu_self, upd_self]
      · rw [mu_idx e2, upd_ne (by omega)]; exact h.per j' hj' hk'
    · rw [mu_ne (by omega), upd_ne (by omega)]; exact h.per j' hj' hk'
  · rw [mu_ne (by omega), upd_ne (by omega)]; exact h.mis hk'
  · rw [mu_ne (by omega), upd_ne (by omega)]; exact h.don j' hj' hk'
  · rw [mu_ne (by omega), upd_ne (by omega)]; exact h.f11
  · rw [mu_ne (by omega), upd_ne (by omega)]; exact h.f12
  · rw [mu_ne (by omega), upd_ne (by omega)]; exact h.f13
  · rw [mu_ne (by omega), upd_ne (by omega)]; exact h.f14
  · rw [mu_ne (by omega), upd_ne (by omega)]; exact h.f15
  · rw [sn_upd (by omega)] at hk' ⊢
    rw [mu_ne (by omega), upd_ne (by omega)]; exact h.log j' hk' hj'
/-- what is missed of a debt -/
theorem cwL.wmis (h : cwL l sg S) {k : Nat} (hk : k < 8) : cwL l (mu sg (l + 8) k x) (upd S (213 + 7 * k + 6) x) := by
  refine ⟨fun v q hv hq => ?_, fun j' k' hj' hk' => ?_, fun k' hk' => ?_, fun j' k' hj' hk' => ?_, ⟨?_, ?_, ?_, ?_, ?_⟩, fun k' j' hk' hj' => ?_⟩
  · rw [mu_ne (by omega), upd_ne (by omega)]; exact h.tab hv hq
  · rw [mu_ne (by omega), upd_ne (by omega)]; exact h.per j' hj' hk'
  · by_cases e2 : k' = k
    · subst e2; rw [mu_self, upd_self]
    · rw [mu_idx e2, upd_ne (by omega)]; exact h.mis hk'
  · rw [mu_ne (by omega), upd_ne (by omega)]; exact h.don j' hj' hk'
  · rw [mu_ne (by omega), upd_ne (by omega)]; exact h.f11
  · rw [mu_ne (by omega), upd_ne (by omega)]; exact h.f12
  · rw [mu_ne (by omega), upd_ne (by omega)]; exact h.f13
  · rw [mu_ne (by omega), upd_ne (by omega)]; exact h.f14
  · rw [mu_ne (by omega), upd_ne (by omega)]; exact h.f15
  · rw [sn_upd (by omega)] at hk' ⊢
    rw [mu_ne (by omega), upd_ne (by omega)]; exact h.log j' hk' hj'
/-- who did a task, and when -/
theorem cwL.wdon (h : cwL l sg S) {j k : Nat} (hj : j < 2) (hk : k < 8) : cwL l (mu sg (l + 9 + j) k x) (upd S (269 + 5 * k + 3 + j) x) := by
  refine ⟨fun v q hv hq => ?_, fun j' k' hj' hk' => ?_, fun k' hk' => ?_, fun j' k' hj' hk' => ?_, ⟨?_, ?_, ?_, ?_, ?_⟩, fun k' j' hk' hj' => ?_⟩
  · rw [mu_ne (by omega), upd_ne (by omega)]; exact h.tab hv hq
  · rw [mu_ne (by omega), upd_ne (by omega)]; exact h.per j' hj' hk'
  · rw [mu_ne (by omega), upd_ne (by omega)]; exact h.mis hk'
  · by_cases e : j' = j
    · subst e
      by_cases e2 : k' = k
      · subst e2; rw [mu_self, upd_self]
      · rw [mu_idx e2, upd_ne (by omega)]; exact h.don j' hj' hk'
    · rw [mu_ne (by omega), upd_ne (by omega)]; exact h.don j' hj' hk'
  · rw [mu_ne (by omega), upd_ne (by omega)]; exact h.f11
  · rw [mu_ne (by omega), upd_ne (by omega)]; exact h.f12
  · rw [mu_ne (by omega), upd_ne (by omega)]; exact h.f13
  · rw [mu_ne (by omega), upd_ne (by omega)]; exact h.f14
  · rw [mu_ne (by omega), upd_ne (by omega)]; exact h.f15
  · rw [sn_upd (by omega)] at hk' ⊢
    rw [mu_ne (by omega), upd_ne (by omega)]; exact h.log j' hk' hj'
/-- a page of a table -/
theorem cwL.wtab (h : cwL l sg S) {v q : Nat} (hv : v < 6) (hq : q < 16) : cwL l (mu sg (l + 12 + v) q x) (upd S (17 + 16 * v + q) x) := by
  refine ⟨fun v' q' hv' hq' => ?_, fun j' k' hj' hk' => ?_, fun k' hk' => ?_, fun j' k' hj' hk' => ?_, ⟨?_, ?_, ?_, ?_, ?_⟩, fun k' j' hk' hj' => ?_⟩
  · by_cases e : v' = v
    · subst e
      by_cases e2 : q' = q
      · subst e2; rw [mu_self, upd_self]
      · rw [mu_idx e2, upd_ne (by omega)]; exact h.tab hv' hq'
    · rw [mu_ne (by omega), upd_ne (by omega)]; exact h.tab hv' hq'
  · rw [mu_ne (by omega), upd_ne (by omega)]; exact h.per j' hj' hk'
  · rw [mu_ne (by omega), upd_ne (by omega)]; exact h.mis hk'
  · rw [mu_ne (by omega), upd_ne (by omega)]; exact h.don j' hj' hk'
  · rw [mu_ne (by omega), upd_ne (by omega)]; exact h.f11
  · rw [mu_ne (by omega), upd_ne (by omega)]; exact h.f12
  · rw [mu_ne (by omega), upd_ne (by omega)]; exact h.f13
  · rw [mu_ne (by omega), upd_ne (by omega)]; exact h.f14
  · rw [mu_ne (by omega), upd_ne (by omega)]; exact h.f15
  · rw [sn_upd (by omega)] at hk' ⊢
    rw [mu_ne (by omega), upd_ne (by omega)]; exact h.log j' hk' hj'
/-- a number of the life but how many rows the log has: fields 12 to 15 are numbers 8, 16, 12, 13 -/
theorem cwL.wfld (h : cwL l sg S) {f i : Nat} (hf : (f = 12 ∧ i = 8) ∨ (f = 13 ∧ i = 16) ∨ (f = 14 ∧ i = 12) ∨ (f = 15 ∧ i = 13)) : cwL l (mu sg l f x) (upd S i x) := by
  have h11 : (mu sg l f x) l 11 = upd S i x 14 := by rw [mu_idx (by omega), upd_ne (by omega)]; exact h.f11
  refine ⟨fun v' q' hv' hq' => ?_, fun j' k' hj' hk' => ?_, fun k' hk' => ?_, fun j' k' hj' hk' => ?_, ⟨h11, ?_⟩, fun k' j' hk' hj' => ?_⟩
  · rw [mu_ne (by omega), upd_ne (by omega)]; exact h.tab hv' hq'
  · rw [mu_ne (by omega), upd_ne (by omega)]; exact h.per j' hj' hk'
  · rw [mu_ne (by omega), upd_ne (by omega)]; exact h.mis hk'
  · rw [mu_ne (by omega), upd_ne (by omega)]; exact h.don j' hj' hk'
  · rcases hf with ⟨rfl, rfl⟩ | ⟨rfl, rfl⟩ | ⟨rfl, rfl⟩ | ⟨rfl, rfl⟩
    · exact ⟨by rw [mu_self, upd_self], by rw [mu_idx (by decide), upd_ne (by decide)]; exact h.f13, by rw [mu_idx (by decide), upd_ne (by decide)]; exact h.f14, by rw [mu_idx (by decide), upd_ne (by decide)]; exact h.f15⟩
    · exact ⟨by rw [mu_idx (by decide), upd_ne (by decide)]; exact h.f12, by rw [mu_self, upd_self], by rw [mu_idx (by decide), upd_ne (by decide)]; exact h.f14, by rw [mu_idx (by decide), upd_ne (by decide)]; exact h.f15⟩
    · exact ⟨by rw [mu_idx (by decide), upd_ne (by decide)]; exact h.f12, by rw [mu_idx (by decide), upd_ne (by decide)]; exact h.f13, by rw [mu_self, upd_self], by rw [mu_idx (by decide), upd_ne (by decide)]; exact h.f15⟩
    · exact ⟨by rw [mu_idx (by decide), upd_ne (by decide)]; exact h.f12, by rw [mu_idx (by decide), upd_ne (by decide)]; exact h.f13, by rw [mu_idx (by decide), upd_ne (by decide)]; exact h.f14, by rw [mu_self, upd_self]⟩
  · rw [sn_upd (by omega)] at hk' ⊢
    rw [mu_ne (by omega), upd_ne (by omega)]; exact h.log j' hk' hj'
/-- what is no number of the land -/
def noLand (i : Nat) : Prop := 6 < i ∧ i ≠ 9 ∧ i ≠ 10 ∧ i ≠ 11 ∧ i ≠ 15 ∧ (i < 161 ∨ (213 ≤ i ∧ i < 269 ∧ (i - 213) % 7 = 6) ∨ (269 ≤ i ∧ i < 309 ∧ 3 ≤ (i - 269) % 5) ∨ 309 ≤ i)
theorem cwD.updS (h : cwD w sg S) {i : Nat} (hi : noLand i) : cwD w sg (upd S i x) := by
  obtain ⟨h1, h2, h3, h4, h5, h6⟩ := hi
  refine ⟨fun k hk => ?_, fun k j hk hj => ?_, fun k j hk hj => ?_, fun k j hk hj => ?_, fun k j hk hj => ?_, ?_, ?_, ?_, ?_, ?_⟩
  · rw [upd_ne (by omega)]; exact h.cnt hk
  · rw [upd_ne (by omega)]; exact h.fac j hk hj
  · rw [upd_ne (by omega)]; exact h.roa j hk hj
  · rw [upd_ne (by omega)]; exact h.deb j hk hj
  · rw [upd_ne (by omega)]; exact h.tas j hk hj
  · rw [upd_ne (by omega)]; exact h.f5
  · rw [upd_ne (by omega)]; exact h.f6
  · rw [upd_ne (by omega)]; exact h.f7
  · rw [upd_ne (by omega)]; exact h.f8
  · rw [upd_ne (by omega)]; exact h.f9
/-- a write to the life's cells leaves the land's -/
theorem cwD.life (h : cwD w sg S) {a i j : Nat} (ha : w + 50 ≤ a) (hi : noLand i) : cwD w (mu sg a j x) (upd S i x) := (h.out (a := a) (Or.inr (Or.inr ha))).updS hi
end WR
