/-! A DAWN MORE: what is then -/
/-- each who is in a village lives the day -/
def lvL (S : Nat → Int32) : Nat → (Nat → Int32) × Nat
  | 0 => (S, 0)
  | k + 1 => if (lvL S k).1 (113 + 6 * k) = -1 then lvL S k else ((lvA (lvL S k).1 k (sn (lvL S k).1 (113 + 6 * k))).1, (lvL S k).2 + (lvA (lvL S k).1 k (sn (lvL S k).1 (113 + 6 * k))).2)
/-- all debts are settled -/
def stA (S : Nat → Int32) : Nat → Nat → Int32
  | 0 => S
  | j + 1 => stD (stA S j) j
def dw2 (S : Nat → Int32) : Nat → Int32 := if sn (tmS S) 8 % sn (tmS S) 9 = 0 then mpA (tmS S) (sn (tmS S) 0) else tmS S
def dw3 (S : Nat → Int32) : Nat → Int32 := arA (dw2 S) (sn (dw2 S) 1)
def dw4 (S : Nat → Int32) : (Nat → Int32) × Nat := lvL (dw3 S) (sn (dw3 S) 1)
def dw5 (S : Nat → Int32) : (Nat → Int32) × Nat := tkA (tlF (dw4 S).1) (sn (dw4 S).1 2) (dw4 S).1 (sn (dw4 S).1 1)
def dw6 (S : Nat → Int32) : Nat → Int32 := stA (dw5 S).1 (sn (dw5 S).1 4)
def dwN (S : Nat → Int32) : Nat := (dw4 S).2 + (dw5 S).2
/-- numbers that living, talking and settling leave: all but coins, what was lived and is known, 12, 13, 14, what is missed, the log -/
def kpI (i : Nat) : Prop := i ≠ 12 ∧ i ≠ 13 ∧ i ≠ 14 ∧ (i < 113 ∨ 161 ≤ i ∨ (i - 113) % 6 < 3) ∧ (i < 213 ∨ 269 ≤ i ∨ (i - 213) % 7 ≠ 6) ∧ (i < 309 ∨ 709 ≤ i)
theorem lvA_inv {B : Nat} {S : Nat → Int32} (hI : Inv B S) {k v : Nat} (hk : k < sn S 1) (hv : v < sn S 0) : Inv B (lvA S k v).1 ∧ (lvA S k v).2 ≤ 8 ∧ ∀ i, kpI i → (lvA S k v).1 i = S i := by
  have b1 := hI.b1
  have hE : Inv B (erS S k (gnS S k v)) := hI.erI hk
  have he : ∀ i, kpI i → erS S k (gnS S k v) i = S i := fun i hi => by unfold kpI at hi; exact erS_ne (by omega) (by omega) (by omega)
  unfold lvA
  generalize erS S k (gnS S k v) = E at hE he
  have k1 : k < sn E 1 := by rw [sn_eq (he 1 (by unfold kpI; omega))]; exact hk
  have k0 : v < sn E 0 := by rw [sn_eq (he 0 (by unfold kpI; omega))]; exact hv
  have b9 := hE.b9
  have b2 := hE.b2
  have hm := Nat.mod_lt (sn E 8) (show 0 < sn E 9 by omega)
  have hyb : dyS E v < sn E 9 := hE.tbb k0 hm
  obtain ⟨h1, h2, h3⟩ := fcA_inv (hE.lvI (y := dyS E v) k1 (by omega)) (v := v) (y := dyS E v) (by rw [sn_eq (lvS_ne (by omega))]; exact k1) (sn E 2) b2
  refine ⟨h1, Nat.le_trans h2 b2, fun i hi => ?_⟩
  have hi2 := hi
  unfold kpI at hi2
  rw [h3 i (by omega), lvS_ne (by omega), he i hi]
theorem lvL_inv {B : Nat} {S : Nat → Int32} (hI : Inv B S) : ∀ k, k ≤ sn S 1 → Inv B (lvL S k).1 ∧ (lvL S k).2 ≤ 8 * k ∧ ∀ i, kpI i → (lvL S k).1 i = S i
  | 0, _ => ⟨hI, Nat.zero_le _, fun _ _ => rfl⟩
  | k + 1, h => by
    have b1 := hI.b1
    obtain ⟨h1, h2, h3⟩ := lvL_inv hI k (by omega)
    have t1 : sn (lvL S k).1 1 = sn S 1 := sn_eq (h3 1 (by unfold kpI; omega))
    unfold lvL
    split
    · exact ⟨h1, by omega, h3⟩
    · rename_i hw
      have hv : sn (lvL S k).1 (113 + 6 * k) < sn (lvL S k).1 0 := by
        rcases (h1.per (show k < sn (lvL S k).1 1 by omega)).1 with h9 | h9
        · exact h9.1.2
        · exact absurd h9.1 hw
      obtain ⟨g1, g2, g3⟩ := lvA_inv h1 (k := k) (by omega) hv
      exact ⟨g1, by dsimp only; omega, fun i hi => by dsimp only; rw [g3 i hi, h3 i hi]⟩
theorem stD_ne {B : Nat} {S : Nat → Int32} (hI : Inv B S) {j i : Nat} (hj : j < sn S 4) (hi : kpI i) : stD S j i = S i := by
  have b1 := hI.b1; have b4 := hI.b4
  have h1 := (hI.deb hj).1.2
  have h2 := (hI.deb hj).2.1.2
  unfold kpI at hi
  unfold stD
  split
  · exact pyS_ne (by omega) (by omega) (by omega)
  · split
    · exact pyS_ne (by omega) (by omega) (by omega)
    · rfl
theorem stA_inv {B : Nat} {S : Nat → Int32} (hI : Inv B S) : ∀ j, j ≤ sn S 4 → Inv B (stA S j) ∧ ∀ i, kpI i → stA S j i = S i
  | 0, _ => ⟨hI, fun _ _ => rfl⟩
  | j + 1, h => by
    obtain ⟨h1, h3⟩ := stA_inv hI j (by omega)
    have hj : j < sn (stA S j) 4 := by rw [sn_eq (h3 4 (by unfold kpI; omega))]; omega
    exact ⟨h1.stI hj, fun i hi => by show stD (stA S j) j i = S i; rw [stD_ne h1 hj hi, h3 i hi]⟩
/-- whoever was to be there now is there: the rest come later -/
theorem arA_str {B : Nat} {S : Nat → Int32} (hI : Inv B S) : ∀ n, n ≤ sn S 1 → ∀ k, (k < n → arA S n (113 + 6 * k) = -1 → sn S 8 < sn (arA S n) (113 + 6 * k + 2)) ∧ (n ≤ k → k < 8 → ∀ j, j < 6 → arA S n (113 + 6 * k + j) = S (113 + 6 * k + j))
  | 0, _, k => ⟨fun h => absurd h (Nat.not_lt_zero _), fun _ _ _ _ => rfl⟩
  | n + 1, h, k => by
    have b1 := hI.b1; have b0 := hI.b0
    obtain ⟨h1, h2⟩ := arA_inv hI n (by omega)
    obtain ⟨g1, g2⟩ := arA_str hI n (by omega) k
    have t1 : sn (arA S n) 1 = sn S 1 := sn_eq (h2 1 (by omega))
    have t8 : arA S n 8 = S 8 := h2 8 (by omega)
    have s8 : sn (arA S n) 8 = sn S 8 := sn_eq t8
    show (k < n + 1 → arS (arA S n) n (113 + 6 * k) = -1 → sn S 8 < sn (arS (arA S n) n) (113 + 6 * k + 2)) ∧ (n + 1 ≤ k → k < 8 → ∀ j, j < 6 → arS (arA S n) n (113 + 6 * k + j) = S (113 + 6 * k + j))
    refine ⟨fun hk hw => ?_, fun hk h8 j hj => ?_⟩
    · by_cases e : k = n
      · subst e
        unfold arS at hw ⊢
        by_cases c : arA S k (113 + 6 * k + 2) = arA S k 8
        · rw [if_pos c, goS_0] at hw
          have hr := (road_of h1 (show k < sn (arA S k) 1 by omega) c).2
          rw [hr.1] at hw
          have hx : nI (sn (arA S k) (113 + 6 * k + 1)) < 0 := by rw [hw]; decide
          exact absurd hx (nI_pos (by have := hr.2; have := h1.b0; omega))
        · rw [if_neg c] at hw ⊢
          rcases (h1.per (show k < sn (arA S k) 1 by omega)).1 with h9 | h9
          · rw [h9.1.1] at hw
            have hx : nI (sn (arA S k) (113 + 6 * k)) < 0 := by rw [hw]; decide
            exact absurd hx (nI_pos (by have := h9.1.2; have := h1.b0; omega))
          · have h10 := h9.2.2.2
            have h11 : sn (arA S k) (113 + 6 * k + 2) ≠ sn (arA S k) 8 := fun h12 => c (by rw [h9.2.2.1.1, h12]; exact h1.c8.symm)
            omega
      · unfold arS at hw ⊢
        by_cases c : arA S n (113 + 6 * n + 2) = arA S n 8
        · rw [if_pos c] at hw ⊢
          rw [goS_ne (by omega)] at hw
          rw [sn_eq (goS_ne (S := arA S n) (by omega))]
          exact g1 (by omega) hw
        · rw [if_neg c] at hw ⊢
          exact g1 (by omega) hw
    · have := g2 (by omega) h8 j hj
      unfold arS
      split
      · rw [goS_ne (by omega)]; exact this
      · exact this
