/-! WHAT IS ALWAYS TRUE stays so -/
section IV
variable {B : Nat} {S S' : Nat → Int32}
theorem sn_eq {i : Nat} (h : S' i = S i) : sn S' i = sn S i := by unfold sn; rw [h]
theorem isN_eq {i n : Nat} (h : S' i = S i) : isN S' i n ↔ isN S i n := by unfold isN; rw [sn_eq h, h]
theorem isN_of {i n m : Nat} (h : S i = nI n) (hn : n < m) (hm : m < 2147483648) : isN S i m := by
  unfold isN sn
  rw [h, nI_clamp (by omega)]
  exact ⟨rfl, hn⟩
theorem InvC.ext (h : InvC B S) (he : ∀ i, i < 10 ∨ i = 14 → S' i = S i) : InvC B S' := by
  unfold InvC at h ⊢
  rw [isN_eq (he 0 (by omega)), isN_eq (he 1 (by omega)), isN_eq (he 2 (by omega)), isN_eq (he 3 (by omega)), isN_eq (he 4 (by omega)), isN_eq (he 5 (by omega)), isN_eq (he 6 (by omega)), isN_eq (he 7 (by omega)), isN_eq (he 8 (by omega)), isN_eq (he 9 (by omega)), sn_eq (he 9 (by omega)), isN_eq (he 14 (by omega))]
  exact h
theorem InvT.ext (hI : Inv B S) (he : ∀ i, i = 0 ∨ i = 9 ∨ (17 ≤ i ∧ i < 113) → S' i = S i) : InvT S' := by
  have b0 := hI.b0; have b9 := hI.b9
  refine ⟨fun v q hv hq => ?_, fun v q r hv hq hr e => ?_⟩
  · rw [sn_eq (he 0 (by omega))] at hv
    rw [sn_eq (he 9 (by omega))] at hq ⊢
    rw [isN_eq (he _ (by omega))]
    exact hI.2.1.1 v q hv hq
  · rw [sn_eq (he 0 (by omega))] at hv
    rw [sn_eq (he 9 (by omega))] at hq hr
    rw [sn_eq (he (17 + 16 * v + q) (by omega)), sn_eq (he (17 + 16 * v + r) (by omega))] at e
    exact hI.2.1.2 v q r hv hq hr e
theorem InvP.ext (hI : Inv B S) (he : ∀ i, i = 0 ∨ i = 1 ∨ i = 8 ∨ (113 ≤ i ∧ i < 161) → S' i = S i) : InvP S' := by
  have b1 := hI.b1
  intro k hk
  rw [sn_eq (he 1 (by omega))] at hk
  have h := hI.per hk
  unfold Wh at h ⊢
  rw [isN_eq (he (113 + 6 * k) (by omega)), isN_eq (he (113 + 6 * k + 1) (by omega)), isN_eq (he (113 + 6 * k + 2) (by omega)), isN_eq (he (113 + 6 * k + 3) (by omega)), isN_eq (he (113 + 6 * k + 4) (by omega)), isN_eq (he (113 + 6 * k + 5) (by omega)), he (113 + 6 * k) (by omega), he (113 + 6 * k + 1) (by omega), he (113 + 6 * k + 2) (by omega), sn_eq (he 0 (by omega)), sn_eq (he 8 (by omega)), sn_eq (he (113 + 6 * k + 2) (by omega))]
  exact h
theorem InvF.ext (hI : Inv B S) (he : ∀ i, i = 0 ∨ i = 2 ∨ i = 9 ∨ (161 ≤ i ∧ i < 177) → S' i = S i) : InvF S' := by
  have b2 := hI.b2
  intro k hk
  rw [sn_eq (he 2 (by omega))] at hk
  have h := hI.fac hk
  rw [isN_eq (he (161 + 2 * k) (by omega)), isN_eq (he (161 + 2 * k + 1) (by omega)), sn_eq (he 0 (by omega)), sn_eq (he 9 (by omega))]
  exact h
theorem InvR.ext (hI : Inv B S) (he : ∀ i, i = 0 ∨ i = 3 ∨ (177 ≤ i ∧ i < 213) → S' i = S i) : InvR S' := by
  have b3 := hI.b3
  intro k hk
  rw [sn_eq (he 3 (by omega))] at hk
  have h := hI.roa hk
  rw [isN_eq (he (177 + 3 * k) (by omega)), isN_eq (he (177 + 3 * k + 1) (by omega)), isN_eq (he (177 + 3 * k + 2) (by omega)), sn_eq (he 0 (by omega)), sn_eq (he (177 + 3 * k) (by omega)), sn_eq (he (177 + 3 * k + 1) (by omega)), sn_eq (he (177 + 3 * k + 2) (by omega))]
  exact h
theorem InvD.ext (hI : Inv B S) (he : ∀ i, i = 0 ∨ i = 1 ∨ i = 4 ∨ i = 9 ∨ (213 ≤ i ∧ i < 269 ∧ (i - 213) % 7 ≠ 6) → S' i = S i) : InvD S' := by
  have b4 := hI.b4
  intro k hk
  rw [sn_eq (he 4 (by omega))] at hk
  have h := hI.deb hk
  rw [isN_eq (he (213 + 7 * k) (by omega)), isN_eq (he (213 + 7 * k + 1) (by omega)), isN_eq (he (213 + 7 * k + 2) (by omega)), isN_eq (he (213 + 7 * k + 3) (by omega)), isN_eq (he (213 + 7 * k + 4) (by omega)), isN_eq (he (213 + 7 * k + 5) (by omega)), sn_eq (he 0 (by omega)), sn_eq (he 1 (by omega)), sn_eq (he 9 (by omega)), sn_eq (he (213 + 7 * k) (by omega)), sn_eq (he (213 + 7 * k + 1) (by omega)), sn_eq (he (213 + 7 * k + 2) (by omega)), sn_eq (he (213 + 7 * k + 4) (by omega)), sn_eq (he (213 + 7 * k + 5) (by omega))]
  exact h
theorem InvK.ext (hI : Inv B S) (he : ∀ i, i = 0 ∨ i = 1 ∨ i = 5 ∨ i = 8 ∨ i = 9 ∨ (269 ≤ i ∧ i < 309) → S' i = S i) : InvK S' := by
  have b5 := hI.b5
  intro k hk
  rw [sn_eq (he 5 (by omega))] at hk
  have h := hI.tas hk
  rw [isN_eq (he (269 + 5 * k) (by omega)), isN_eq (he (269 + 5 * k + 1) (by omega)), isN_eq (he (269 + 5 * k + 2) (by omega)), isN_eq (he (269 + 5 * k + 3) (by omega)), isN_eq (he (269 + 5 * k + 4) (by omega)), he (269 + 5 * k + 2) (by omega), he (269 + 5 * k + 3) (by omega), he (269 + 5 * k + 4) (by omega), sn_eq (he 0 (by omega)), sn_eq (he 1 (by omega)), sn_eq (he 8 (by omega)), sn_eq (he 9 (by omega))]
  exact h
/-- numbers that are free -/
def freeI (i : Nat) : Prop := i = 10 ∨ i = 11 ∨ i = 12 ∨ i = 13 ∨ i = 15 ∨ i = 16 ∨ (213 ≤ i ∧ i < 269 ∧ (i - 213) % 7 = 6) ∨ 309 ≤ i
theorem Inv.ext (hI : Inv B S) (he : ∀ i, ¬ freeI i → S' i = S i) : Inv B S' := by
  unfold freeI at he
  exact ⟨hI.1.ext (fun i h => he i (by omega)), InvT.ext hI (fun i h => he i (by omega)), InvP.ext hI (fun i h => he i (by omega)), InvF.ext hI (fun i h => he i (by omega)), InvR.ext hI (fun i h => he i (by omega)), InvD.ext hI (fun i h => he i (by omega)), InvK.ext hI (fun i h => he i (by omega))⟩
theorem Inv.free (hI : Inv B S) {i : Nat} {x : Int32} (hi : freeI i) : Inv B (upd S i x) := hI.ext (fun j hj => upd_ne (fun e => hj (by rw [e]; exact hi)))
theorem Inv.perE (hI : Inv B S) (he : ∀ i, ¬ (113 ≤ i ∧ i < 161) → S' i = S i) (hp : InvP S') : Inv B S' :=
  ⟨hI.1.ext (fun i h => he i (by omega)), InvT.ext hI (fun i h => he i (by omega)), hp, InvF.ext hI (fun i h => he i (by omega)), InvR.ext hI (fun i h => he i (by omega)), InvD.ext hI (fun i h => he i (by omega)), InvK.ext hI (fun i h => he i (by omega))⟩
theorem Inv.tasE (hI : Inv B S) (he : ∀ i, ¬ (269 ≤ i ∧ i < 309) → S' i = S i) (hp : InvK S') : Inv B S' :=
  ⟨hI.1.ext (fun i h => he i (by omega)), InvT.ext hI (fun i h => he i (by omega)), InvP.ext hI (fun i h => he i (by omega)), InvF.ext hI (fun i h => he i (by omega)), InvR.ext hI (fun i h => he i (by omega)), InvD.ext hI (fun i h => he i (by omega)), hp⟩
theorem Inv.tabE (hI : Inv B S) (he : ∀ i, ¬ (17 ≤ i ∧ i < 113) → S' i = S i) (hp : InvT S') : Inv B S' :=
  ⟨hI.1.ext (fun i h => he i (by omega)), hp, InvP.ext hI (fun i h => he i (by omega)), InvF.ext hI (fun i h => he i (by omega)), InvR.ext hI (fun i h => he i (by omega)), InvD.ext hI (fun i h => he i (by omega)), InvK.ext hI (fun i h => he i (by omega))⟩
/-- a number of one person that isn't where he is -/
theorem InvP.upd (hI : Inv B S) {k j n : Nat} (hk : k < sn S 1) (hj : (j = 3 ∧ n < 10000) ∨ (j = 4 ∧ n < 65536) ∨ (j = 5 ∧ n < 256)) : InvP (upd S (113 + 6 * k + j) (nI n)) := by
  have b1 := hI.b1
  intro k' hk'
  rw [sn_upd (by omega)] at hk'
  have h := hI.per hk'
  unfold Wh at h ⊢
  rw [sn_upd (show 0 ≠ _ by omega), sn_upd (show 8 ≠ _ by omega), sn_upd (show 113 + 6 * k' + 2 ≠ _ by omega), isN_upd (show 113 + 6 * k' ≠ _ by omega), isN_upd (show 113 + 6 * k' + 1 ≠ _ by omega), isN_upd (show 113 + 6 * k' + 2 ≠ _ by omega), upd_ne (show 113 + 6 * k' ≠ _ by omega), upd_ne (show 113 + 6 * k' + 1 ≠ _ by omega), upd_ne (show 113 + 6 * k' + 2 ≠ _ by omega)]
  obtain ⟨h1, h2, h3, h4⟩ := h
  refine ⟨h1, ?_, ?_, ?_⟩
  · by_cases e : 113 + 6 * k' + 3 = 113 + 6 * k + j
    · rw [e]; exact isN_self (by omega) (by omega)
    · rw [isN_upd e]; exact h2
  · by_cases e : 113 + 6 * k' + 4 = 113 + 6 * k + j
    · rw [e]; exact isN_self (by omega) (by omega)
    · rw [isN_upd e]; exact h3
  · by_cases e : 113 + 6 * k' + 5 = 113 + 6 * k + j
    · rw [e]; exact isN_self (by omega) (by omega)
    · rw [isN_upd e]; exact h4
theorem Inv.per1 (hI : Inv B S) {k j n : Nat} (hk : k < sn S 1) (hj : (j = 3 ∧ n < 10000) ∨ (j = 4 ∧ n < 65536) ∨ (j = 5 ∧ n < 256)) : Inv B (upd S (113 + 6 * k + j) (nI n)) := by
  have b1 := hI.b1
  exact hI.perE (fun i h => upd_ne (by omega)) (InvP.upd hI hk hj)
/-- where one is -/
def goS (S : Nat → Int32) (k : Nat) (x y z : Int32) : Nat → Int32 := upd (upd (upd S (113 + 6 * k) x) (113 + 6 * k + 1) y) (113 + 6 * k + 2) z
theorem goS_ne {k i : Nat} {x y z : Int32} (h : i ≠ 113 + 6 * k ∧ i ≠ 113 + 6 * k + 1 ∧ i ≠ 113 + 6 * k + 2) : goS S k x y z i = S i := by
  unfold goS
  rw [upd_ne h.2.2, upd_ne h.2.1, upd_ne h.1]
theorem goS_0 {k : Nat} {x y z : Int32} : goS S k x y z (113 + 6 * k) = x := by
  unfold goS
  rw [upd_ne (by omega), upd_ne (by omega), upd_self]
theorem goS_1 {k : Nat} {x y z : Int32} : goS S k x y z (113 + 6 * k + 1) = y := by
  unfold goS
  rw [upd_ne (by omega), upd_self]
theorem goS_2 {k : Nat} {x y z : Int32} : goS S k x y z (113 + 6 * k + 2) = z := upd_self
theorem Inv.goI (hI : Inv B S) {k : Nat} {x y z : Int32} (hk : k < sn S 1) (h : (∃ v, v < sn S 0 ∧ x = nI v ∧ y = -1 ∧ z = -1) ∨ (x = -1 ∧ ∃ v a, v < sn S 0 ∧ sn S 8 ≤ a ∧ a < sn S 8 + 6 ∧ y = nI v ∧ z = nI a)) : Inv B (goS S k x y z) := by
  have b1 := hI.b1; have b0 := hI.b0; have b8 := hI.b8
  refine hI.perE (fun i hi => goS_ne (by omega)) ?_
  intro k' hk'
  rw [sn_eq (goS_ne (by omega))] at hk'
  have h' := hI.per hk'
  rw [isN_eq (S := S) (i := 113 + 6 * k' + 3) (goS_ne (by omega)), isN_eq (S := S) (i := 113 + 6 * k' + 4) (goS_ne (by omega)), isN_eq (S := S) (i := 113 + 6 * k' + 5) (goS_ne (by omega))]
  refine ⟨?_, h'.2⟩
  unfold Wh
  rw [sn_eq (S := S) (i := 0) (goS_ne (by omega)), sn_eq (S := S) (i := 8) (goS_ne (by omega))]
  by_cases e : k' = k
  · subst e
    unfold isN sn
    rw [goS_0, goS_1, goS_2]
    rcases h with ⟨v, h1, h2, h3, h4⟩ | ⟨h1, v, a, h2, h3, h4, h5, h6⟩
    · left
      rw [h2, nI_clamp (by omega)]
      exact ⟨⟨rfl, h1⟩, h3, h4⟩
    · right
      rw [h5, h6, nI_clamp (by omega), nI_clamp (by omega)]
      exact ⟨h1, ⟨rfl, h2⟩, ⟨rfl, h4⟩, h3⟩
  · have h1 := h'.1
    unfold Wh at h1
    rw [isN_eq (S := S) (i := 113 + 6 * k') (goS_ne (by omega)), isN_eq (S := S) (i := 113 + 6 * k' + 1) (goS_ne (by omega)), isN_eq (S := S) (i := 113 + 6 * k' + 2) (goS_ne (by omega)), goS_ne (S := S) (i := 113 + 6 * k') (by omega), goS_ne (S := S) (i := 113 + 6 * k' + 1) (by omega), goS_ne (S := S) (i := 113 + 6 * k' + 2) (by omega), sn_eq (S := S) (i := 113 + 6 * k' + 2) (goS_ne (by omega))]
    exact h1
/-- a task is done -/
def doS (S : Nat → Int32) (t : Nat) (x y : Int32) : Nat → Int32 := upd (upd S (269 + 5 * t + 3) x) (269 + 5 * t + 4) y
theorem Inv.doI (hI : Inv B S) {t k : Nat} (hk : k < sn S 1) (ht : t < sn S 5) : Inv B (doS S t (nI k) (nI (sn S 8))) := by
  have b1 := hI.b1; have b5 := hI.b5; have b8 := hI.b8
  have ne : ∀ i, i ≠ 269 + 5 * t + 3 → i ≠ 269 + 5 * t + 4 → doS S t (nI k) (nI (sn S 8)) i = S i := by
    intro i h1 h2
    show upd (upd S _ _) _ _ i = S i
    rw [upd_ne h2, upd_ne h1]
  refine hI.tasE (fun i hi => ne i (by omega) (by omega)) ?_
  intro k' hk'
  rw [sn_eq (ne 5 (by omega) (by omega))] at hk'
  have h := hI.tas hk'
  rw [isN_eq (ne (269 + 5 * k') (by omega) (by omega)), isN_eq (ne (269 + 5 * k' + 1) (by omega) (by omega)), isN_eq (ne (269 + 5 * k' + 2) (by omega) (by omega)), ne (269 + 5 * k' + 2) (by omega) (by omega), sn_eq (ne 0 (by omega) (by omega)), sn_eq (ne 1 (by omega) (by omega)), sn_eq (ne 8 (by omega) (by omega)), sn_eq (ne 9 (by omega) (by omega))]
  refine ⟨h.1, h.2.1, h.2.2.1, ?_⟩
  by_cases e : k' = t
  · subst e
    right
    have e3 : doS S k' (nI k) (nI (sn S 8)) (269 + 5 * k' + 3) = nI k := by
      show upd (upd S _ _) _ _ _ = _
      rw [upd_ne (by omega), upd_self]
    have e4 : doS S k' (nI k) (nI (sn S 8)) (269 + 5 * k' + 4) = nI (sn S 8) := upd_self
    exact ⟨isN_of e3 hk (by omega), isN_of e4 (Nat.lt_succ_self _) (by omega)⟩
  · rw [isN_eq (ne (269 + 5 * k' + 3) (by omega) (by omega)), isN_eq (ne (269 + 5 * k' + 4) (by omega) (by omega)), ne (269 + 5 * k' + 3) (by omega) (by omega), ne (269 + 5 * k' + 4) (by omega) (by omega)]
    exact h.2.2.2
end IV
