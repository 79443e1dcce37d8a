/-! THE STATE as numbers S (laid out as the reference's row 'world'), what is always true of it, and how the class's cells hold it -/
def sn (S : Nat → Int32) (j : Nat) : Nat := (S j).toNatClampNeg
/-- a natural number below n stands at j -/
def isN (S : Nat → Int32) (j n : Nat) : Prop := S j = nI (sn S j) ∧ sn S j < n
def Wh (S : Nat → Int32) (k : Nat) : Prop := (isN S (113 + 6 * k) (sn S 0) ∧ S (113 + 6 * k + 1) = -1 ∧ S (113 + 6 * k + 2) = -1) ∨ (S (113 + 6 * k) = -1 ∧ isN S (113 + 6 * k + 1) (sn S 0) ∧ isN S (113 + 6 * k + 2) (sn S 8 + 6) ∧ sn S 8 ≤ sn S (113 + 6 * k + 2))
def InvC (B : Nat) (S : Nat → Int32) : Prop := isN S 0 7 ∧ isN S 1 9 ∧ isN S 2 9 ∧ isN S 3 13 ∧ isN S 4 9 ∧ isN S 5 9 ∧ isN S 6 13 ∧ isN S 7 2 ∧ (isN S 8 (B + 1) ∧ B ≤ 200000) ∧ (isN S 9 17 ∧ 3 ≤ sn S 9) ∧ isN S 14 101
def InvT (S : Nat → Int32) : Prop := (∀ v q, v < sn S 0 → q < sn S 9 → isN S (17 + 16 * v + q) (sn S 9)) ∧ ∀ v q r, v < sn S 0 → q < sn S 9 → r < sn S 9 → sn S (17 + 16 * v + q) = sn S (17 + 16 * v + r) → q = r
def InvP (S : Nat → Int32) : Prop := ∀ k, k < sn S 1 → Wh S k ∧ isN S (113 + 6 * k + 3) 10000 ∧ isN S (113 + 6 * k + 4) 65536 ∧ isN S (113 + 6 * k + 5) 256
def InvF (S : Nat → Int32) : Prop := ∀ k, k < sn S 2 → isN S (161 + 2 * k) (sn S 0) ∧ isN S (161 + 2 * k + 1) (sn S 9)
def InvR (S : Nat → Int32) : Prop := ∀ k, k < sn S 3 → isN S (177 + 3 * k) (sn S 0) ∧ isN S (177 + 3 * k + 1) (sn S 0) ∧ isN S (177 + 3 * k + 2) 6 ∧ 1 ≤ sn S (177 + 3 * k + 2) ∧ sn S (177 + 3 * k) ≠ sn S (177 + 3 * k + 1)
def InvD (S : Nat → Int32) : Prop := ∀ k, k < sn S 4 → isN S (213 + 7 * k) (sn S 1) ∧ isN S (213 + 7 * k + 1) (sn S 1) ∧ isN S (213 + 7 * k + 2) 1000 ∧ isN S (213 + 7 * k + 3) (sn S 0) ∧ isN S (213 + 7 * k + 4) (sn S 9) ∧ isN S (213 + 7 * k + 5) (sn S 9) ∧ 1 ≤ sn S (213 + 7 * k + 2) ∧ sn S (213 + 7 * k) ≠ sn S (213 + 7 * k + 1) ∧ sn S (213 + 7 * k + 4) ≠ sn S (213 + 7 * k + 5)
def InvK (S : Nat → Int32) : Prop := ∀ k, k < sn S 5 → isN S (269 + 5 * k) (sn S 0) ∧ isN S (269 + 5 * k + 1) (sn S 9) ∧ (S (269 + 5 * k + 2) = -1 ∨ isN S (269 + 5 * k + 2) k) ∧ ((S (269 + 5 * k + 3) = -1 ∧ S (269 + 5 * k + 4) = -1) ∨ (isN S (269 + 5 * k + 3) (sn S 1) ∧ isN S (269 + 5 * k + 4) (sn S 8 + 1)))
def Inv (B : Nat) (S : Nat → Int32) : Prop := InvC B S ∧ InvT S ∧ InvP S ∧ InvF S ∧ InvR S ∧ InvD S ∧ InvK S
section ST
variable {B : Nat} {S : Nat → Int32}
theorem Inv.c0 (h : Inv B S) : S 0 = nI (sn S 0) := h.1.1.1
theorem Inv.b0 (h : Inv B S) : sn S 0 ≤ 6 := Nat.le_of_lt_succ h.1.1.2
theorem Inv.c1 (h : Inv B S) : S 1 = nI (sn S 1) := h.1.2.1.1
theorem Inv.b1 (h : Inv B S) : sn S 1 ≤ 8 := Nat.le_of_lt_succ h.1.2.1.2
theorem Inv.c2 (h : Inv B S) : S 2 = nI (sn S 2) := h.1.2.2.1.1
theorem Inv.b2 (h : Inv B S) : sn S 2 ≤ 8 := Nat.le_of_lt_succ h.1.2.2.1.2
theorem Inv.c3 (h : Inv B S) : S 3 = nI (sn S 3) := h.1.2.2.2.1.1
theorem Inv.b3 (h : Inv B S) : sn S 3 ≤ 12 := Nat.le_of_lt_succ h.1.2.2.2.1.2
theorem Inv.c4 (h : Inv B S) : S 4 = nI (sn S 4) := h.1.2.2.2.2.1.1
theorem Inv.b4 (h : Inv B S) : sn S 4 ≤ 8 := Nat.le_of_lt_succ h.1.2.2.2.2.1.2
theorem Inv.c5 (h : Inv B S) : S 5 = nI (sn S 5) := h.1.2.2.2.2.2.1.1
theorem Inv.b5 (h : Inv B S) : sn S 5 ≤ 8 := Nat.le_of_lt_succ h.1.2.2.2.2.2.1.2
theorem Inv.c6 (h : Inv B S) : S 6 = nI (sn S 6) := h.1.2.2.2.2.2.2.1.1
theorem Inv.b6 (h : Inv B S) : sn S 6 ≤ 12 := Nat.le_of_lt_succ h.1.2.2.2.2.2.2.1.2
theorem Inv.c7 (h : Inv B S) : S 7 = nI (sn S 7) := h.1.2.2.2.2.2.2.2.1.1
theorem Inv.b7 (h : Inv B S) : sn S 7 ≤ 1 := Nat.le_of_lt_succ h.1.2.2.2.2.2.2.2.1.2
theorem Inv.c8 (h : Inv B S) : S 8 = nI (sn S 8) := h.1.2.2.2.2.2.2.2.2.1.1.1
theorem Inv.B8 (h : Inv B S) : sn S 8 ≤ B := Nat.le_of_lt_succ h.1.2.2.2.2.2.2.2.2.1.1.2
theorem Inv.b8 (h : Inv B S) : sn S 8 ≤ 200000 := Nat.le_trans h.B8 h.1.2.2.2.2.2.2.2.2.1.2
theorem Inv.c9 (h : Inv B S) : S 9 = nI (sn S 9) := h.1.2.2.2.2.2.2.2.2.2.1.1.1
theorem Inv.b9 (h : Inv B S) : 3 ≤ sn S 9 ∧ sn S 9 ≤ 16 := ⟨h.1.2.2.2.2.2.2.2.2.2.1.2, Nat.le_of_lt_succ h.1.2.2.2.2.2.2.2.2.2.1.1.2⟩
theorem Inv.c14 (h : Inv B S) : S 14 = nI (sn S 14) := h.1.2.2.2.2.2.2.2.2.2.2.1
theorem Inv.b14 (h : Inv B S) : sn S 14 ≤ 100 := Nat.le_of_lt_succ h.1.2.2.2.2.2.2.2.2.2.2.2
theorem Inv.tb (h : Inv B S) {v q : Nat} (hv : v < sn S 0) (hq : q < sn S 9) : S (17 + 16 * v + q) = nI (sn S (17 + 16 * v + q)) := (h.2.1.1 v q hv hq).1
theorem Inv.tbb (h : Inv B S) {v q : Nat} (hv : v < sn S 0) (hq : q < sn S 9) : sn S (17 + 16 * v + q) < sn S 9 := (h.2.1.1 v q hv hq).2
theorem Inv.tbi (h : Inv B S) {v q r : Nat} (hv : v < sn S 0) (hq : q < sn S 9) (hr : r < sn S 9) (e : sn S (17 + 16 * v + q) = sn S (17 + 16 * v + r)) : q = r := h.2.1.2 v q r hv hq hr e
theorem Inv.per (h : Inv B S) {k : Nat} (hk : k < sn S 1) : Wh S k ∧ isN S (113 + 6 * k + 3) 10000 ∧ isN S (113 + 6 * k + 4) 65536 ∧ isN S (113 + 6 * k + 5) 256 := h.2.2.1 k hk
theorem Inv.fac (h : Inv B S) {k : Nat} (hk : k < sn S 2) : isN S (161 + 2 * k) (sn S 0) ∧ isN S (161 + 2 * k + 1) (sn S 9) := h.2.2.2.1 k hk
theorem Inv.roa (h : Inv B S) {k : Nat} (hk : k < sn S 3) : isN S (177 + 3 * k) (sn S 0) ∧ isN S (177 + 3 * k + 1) (sn S 0) ∧ isN S (177 + 3 * k + 2) 6 ∧ 1 ≤ sn S (177 + 3 * k + 2) ∧ sn S (177 + 3 * k) ≠ sn S (177 + 3 * k + 1) := h.2.2.2.2.1 k hk
theorem Inv.deb (h : Inv B S) {k : Nat} (hk : k < sn S 4) : isN S (213 + 7 * k) (sn S 1) ∧ isN S (213 + 7 * k + 1) (sn S 1) ∧ isN S (213 + 7 * k + 2) 1000 ∧ isN S (213 + 7 * k + 3) (sn S 0) ∧ isN S (213 + 7 * k + 4) (sn S 9) ∧ isN S (213 + 7 * k + 5) (sn S 9) ∧ 1 ≤ sn S (213 + 7 * k + 2) ∧ sn S (213 + 7 * k) ≠ sn S (213 + 7 * k + 1) ∧ sn S (213 + 7 * k + 4) ≠ sn S (213 + 7 * k + 5) := h.2.2.2.2.2.1 k hk
theorem Inv.tas (h : Inv B S) {k : Nat} (hk : k < sn S 5) : isN S (269 + 5 * k) (sn S 0) ∧ isN S (269 + 5 * k + 1) (sn S 9) ∧ (S (269 + 5 * k + 2) = -1 ∨ isN S (269 + 5 * k + 2) k) ∧ ((S (269 + 5 * k + 3) = -1 ∧ S (269 + 5 * k + 4) = -1) ∨ (isN S (269 + 5 * k + 3) (sn S 1) ∧ isN S (269 + 5 * k + 4) (sn S 8 + 1))) := h.2.2.2.2.2.2 k hk
end ST
/-! the class's cells: a Life at l, a Land at w + 2 -/
def cwL (l : Nat) (sg : Mg) (S : Nat → Int32) : Prop := (∀ v q, v < 6 → q < 16 → sg (l + 12 + v) q = S (17 + 16 * v + q)) ∧ (∀ j k, j < 6 → k < 8 → sg (l + 2 + j) k = S (113 + 6 * k + j)) ∧ (∀ k, k < 8 → sg (l + 8) k = S (213 + 7 * k + 6)) ∧ (∀ j k, j < 2 → k < 8 → sg (l + 9 + j) k = S (269 + 5 * k + 3 + j)) ∧ (sg l 11 = S 14 ∧ sg l 12 = S 8 ∧ sg l 13 = S 16 ∧ sg l 14 = S 12 ∧ sg l 15 = S 13) ∧ ∀ k j, k < sn S 14 → j < 4 → sg (l + 11) (4 * (sn S 14 - 1 - k) + j) = S (309 + 4 * k + j)
def cwD (w : Nat) (sg : Mg) (S : Nat → Int32) : Prop := (∀ k, k < 6 → sg (w + 3) k = S k) ∧ (∀ k j, k < 8 → j < 2 → sg (w + 14 + k) j = S (161 + 2 * k + j)) ∧ (∀ k j, k < 12 → j < 3 → sg (w + 22 + k) j = S (177 + 3 * k + j)) ∧ (∀ k j, k < 8 → j < 6 → sg (w + 34 + k) j = S (213 + 7 * k + j)) ∧ (∀ k j, k < 8 → j < 3 → sg (w + 42 + k) j = S (269 + 5 * k + j)) ∧ sg (w + 2) 5 = S 9 ∧ sg (w + 2) 6 = S 10 ∧ sg (w + 2) 7 = S 15 ∧ sg (w + 2) 8 = S 6 ∧ sg (w + 2) 9 = S 11
section SU
variable {l w : Nat} {sg : Mg} {S : Nat → Int32}
theorem cwL.tab (h : cwL l sg S) {v q : Nat} (hv : v < 6) (hq : q < 16) : sg (l + 12 + v) q = S (17 + 16 * v + q) := h.1 v q hv hq
theorem cwL.per (h : cwL l sg S) (j : Nat) {k : Nat} (hj : j < 6) (hk : k < 8) : sg (l + 2 + j) k = S (113 + 6 * k + j) := h.2.1 j k hj hk
theorem cwL.mis (h : cwL l sg S) {k : Nat} (hk : k < 8) : sg (l + 8) k = S (213 + 7 * k + 6) := h.2.2.1 k hk
theorem cwL.don (h : cwL l sg S) (j : Nat) {k : Nat} (hj : j < 2) (hk : k < 8) : sg (l + 9 + j) k = S (269 + 5 * k + 3 + j) := h.2.2.2.1 j k hj hk
theorem cwL.f11 (h : cwL l sg S) : sg l 11 = S 14 := h.2.2.2.2.1.1
theorem cwL.f12 (h : cwL l sg S) : sg l 12 = S 8 := h.2.2.2.2.1.2.1
theorem cwL.f13 (h : cwL l sg S) : sg l 13 = S 16 := h.2.2.2.2.1.2.2.1
theorem cwL.f14 (h : cwL l sg S) : sg l 14 = S 12 := h.2.2.2.2.1.2.2.2.1
theorem cwL.f15 (h : cwL l sg S) : sg l 15 = S 13 := h.2.2.2.2.1.2.2.2.2
theorem cwL.log (h : cwL l sg S) {k : Nat} (j : Nat) (hk : k < sn S 14) (hj : j < 4) : sg (l + 11) (4 * (sn S 14 - 1 - k) + j) = S (309 + 4 * k + j) := h.2.2.2.2.2 k j hk hj
theorem cwD.cnt (h : cwD w sg S) {k : Nat} (hk : k < 6) : sg (w + 3) k = S k := h.1 k hk
theorem cwD.fac (h : cwD w sg S) (j : Nat) {k : Nat} (hk : k < 8) (hj : j < 2) : sg (w + 14 + k) j = S (161 + 2 * k + j) := h.2.1 k j hk hj
theorem cwD.roa (h : cwD w sg S) (j : Nat) {k : Nat} (hk : k < 12) (hj : j < 3) : sg (w + 22 + k) j = S (177 + 3 * k + j) := h.2.2.1 k j hk hj
theorem cwD.deb (h : cwD w sg S) (j : Nat) {k : Nat} (hk : k < 8) (hj : j < 6) : sg (w + 34 + k) j = S (213 + 7 * k + j) := h.2.2.2.1 k j hk hj
theorem cwD.tas (h : cwD w sg S) (j : Nat) {k : Nat} (hk : k < 8) (hj : j < 3) : sg (w + 42 + k) j = S (269 + 5 * k + j) := h.2.2.2.2.1 k j hk hj
theorem cwD.f5 (h : cwD w sg S) : sg (w + 2) 5 = S 9 := h.2.2.2.2.2.1
theorem cwD.f6 (h : cwD w sg S) : sg (w + 2) 6 = S 10 := h.2.2.2.2.2.2.1
theorem cwD.f7 (h : cwD w sg S) : sg (w + 2) 7 = S 15 := h.2.2.2.2.2.2.2.1
theorem cwD.f8 (h : cwD w sg S) : sg (w + 2) 8 = S 6 := h.2.2.2.2.2.2.2.2.1
theorem cwD.f9 (h : cwD w sg S) : sg (w + 2) 9 = S 11 := h.2.2.2.2.2.2.2.2.2
end SU
/-- nothing is written but in these cells -/
def Eqx (l : List Nat) (sg sg' : Mg) : Prop := ∀ a, a ∉ l → sg' a = sg a
theorem Eqx.rf (l : List Nat) (sg : Mg) : Eqx l sg sg := fun _ _ => rfl
theorem Eqx.tr {l : List Nat} {s1 s2 s3 : Mg} (h : Eqx l s1 s2) (g : Eqx l s2 s3) : Eqx l s1 s3 := fun a ha => (g a ha).trans (h a ha)
theorem Eqx.up {l : List Nat} {s1 s2 : Mg} {a i : Nat} {x : Int32} (h : Eqx l s1 s2) (ha : a ∈ l) : Eqx l s1 (mu s2 a i x) := fun b hb => (mu_ne (fun e => hb (by rw [e]; exact ha))).trans (h b hb)
theorem Eqx.mono {l l' : List Nat} {s1 s2 : Mg} (h : Eqx l s1 s2) (g : ∀ a ∈ l, a ∈ l') : Eqx l' s1 s2 := fun a ha => h a (fun h1 => ha (g a h1))
theorem cwL.eqx {m : List Nat} {l : Nat} {sg sg' : Mg} {S : Nat → Int32} (h : cwL l sg S) (e : Eqx m sg sg') (hm : ∀ a ∈ m, a < l ∨ l + 18 ≤ a) : cwL l sg' S := by
  have g : ∀ j, j < 18 → sg' (l + j) = sg (l + j) := fun j hj => e _ (fun h1 => by have := hm _ h1; omega)
  refine ⟨fun v q hv hq => ?_, fun j k hj hk => ?_, fun k hk => ?_, fun j k hj hk => ?_, ⟨?_, ?_, ?_, ?_, ?_⟩, fun k j hk hj => ?_⟩
  · rw [Nat.add_assoc, g (12 + v) (by omega), ← Nat.add_assoc]; exact h.tab hv hq
  · rw [Nat.add_assoc, g (2 + j) (by omega), ← Nat.add_assoc]; exact h.per j hj hk
  · rw [g 8 (by omega)]; exact h.mis hk
  · rw [Nat.add_assoc, g (9 + j) (by omega), ← Nat.add_assoc]; exact h.don j hj hk
  · rw [show sg' l = sg l from g 0 (by omega)]; exact h.f11
  · rw [show sg' l = sg l from g 0 (by omega)]; exact h.f12
  · rw [show sg' l = sg l from g 0 (by omega)]; exact h.f13
  · rw [show sg' l = sg l from g 0 (by omega)]; exact h.f14
  · rw [show sg' l = sg l from g 0 (by omega)]; exact h.f15
  · rw [g 11 (by omega)]; exact h.log j hk hj
theorem cwD.eqx {m : List Nat} {w : Nat} {sg sg' : Mg} {S : Nat → Int32} (h : cwD w sg S) (e : Eqx m sg sg') (hm : ∀ a ∈ m, a < w + 2 ∨ (w + 8 ≤ a ∧ a < w + 14) ∨ w + 50 ≤ a) : cwD w sg' S := by
  have g : ∀ j, 2 ≤ j → (j < 8 ∨ 14 ≤ j) → j < 50 → sg' (w + j) = sg (w + j) := fun j h2 hj h9 => e _ (fun h1 => by have := hm _ h1; omega)
  refine ⟨fun k hk => ?_, fun k j hk hj => ?_, fun k j hk hj => ?_, fun k j hk hj => ?_, fun k j hk hj => ?_, ?_, ?_, ?_, ?_, ?_⟩
  · rw [g 3 (by omega) (by omega) (by omega)]; exact h.cnt hk
  · rw [Nat.add_assoc, g (14 + k) (by omega) (by omega) (by omega), ← Nat.add_assoc]; exact h.fac j hk hj
  · rw [Nat.add_assoc, g (22 + k) (by omega) (by omega) (by omega), ← Nat.add_assoc]; exact h.roa j hk hj
  · rw [Nat.add_assoc, g (34 + k) (by omega) (by omega) (by omega), ← Nat.add_assoc]; exact h.deb j hk hj
  · rw [Nat.add_assoc, g (42 + k) (by omega) (by omega) (by omega), ← Nat.add_assoc]; exact h.tas j hk hj
  · rw [g 2 (by omega) (by omega) (by omega)]; exact h.f5
  · rw [g 2 (by omega) (by omega) (by omega)]; exact h.f6
  · rw [g 2 (by omega) (by omega) (by omega)]; exact h.f7
  · rw [g 2 (by omega) (by omega) (by omega)]; exact h.f8
  · rw [g 2 (by omega) (by omega) (by omega)]; exact h.f9
