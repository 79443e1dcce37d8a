/-! LAW: what holds behind a text of the law (made by wip/whole/gen89zzy.py) -/
theorem Inv.law7 {B : Nat} {S S' : Nat → Int32} (hI : Inv B S) (e : ∀ i, i < 709 → i ≠ 7 → S' i = S i) (h7 : S' 7 = 1) : Inv B S' := by
  refine ⟨?_, InvT.ext hI (fun i h => e i (by omega) (by omega)), InvP.ext hI (fun i h => e i (by omega) (by omega)), InvF.ext hI (fun i h => e i (by omega) (by omega)), InvR.ext hI (fun i h => e i (by omega) (by omega)), InvD.ext hI (fun i h => e i (by omega) (by omega)), InvK.ext hI (fun i h => e i (by omega) (by omega))⟩
  obtain ⟨c0, c1, c2, c3, c4, c5, c6, c7, c8, c9, c14⟩ := hI.1
  unfold InvC
  rw [isN_eq (e 0 (by omega) (by omega)), isN_eq (e 1 (by omega) (by omega)), isN_eq (e 2 (by omega) (by omega)), isN_eq (e 3 (by omega) (by omega)), isN_eq (e 4 (by omega) (by omega)), isN_eq (e 5 (by omega) (by omega)), isN_eq (e 6 (by omega) (by omega)), isN_eq (e 8 (by omega) (by omega)), isN_eq (e 9 (by omega) (by omega)), sn_eq (e 9 (by omega) (by omega)), isN_eq (e 14 (by omega) (by omega))]
  exact ⟨c0, c1, c2, c3, c4, c5, c6, isN_nI (show S' 7 = nI 1 from h7) (by decide) (by decide), c8, c9, c14⟩
theorem LWR.InvA {T : Nat → Int32} {n : Nat} (hn : n ≤ 400) {q : Nat × LE × LLn} {S : Nat → Int32} (hP : prLaw T n = .inr q) (h : LWR q.2.1 q.2.2 S) : InvA S := fun _ => by
  obtain ⟨o1, o2, o3⟩ := prLaw_ok hP
  have hK := prLaw_LK hP
  obtain ⟨h7, h9, hL, hE⟩ := h
  have e9 := sn_nI h9 (by omega)
  refine ⟨⟨by rw [e9]; exact h9, by omega⟩, fun m hm => ?_⟩
  rw [e9] at hm
  have hb : ∀ i, i < q.2.2.length → (q.2.2.getD i (0, 0, 0)).2.2 ≤ 400 ∧ sn S (710 + 4 * i + 3) = (q.2.2.getD i (0, 0, 0)).2.2 := fun i hi => by
    have g := WT.of hE (hK i hi).2.2.2
    exact ⟨by omega, sn_nI (hL i hi).2.2.2 (by omega)⟩
  obtain ⟨k1, k2, k3, k4⟩ := hK m hm
  obtain ⟨l1, l2, l3, l4⟩ := hL m hm
  have g := WT.of hE k4
  have eB : lnB S m = (q.2.2.getD m (0, 0, 0)).2.2 := (hb m hm).2
  have eA : lnA S m = stL q.2.2 m := by
    unfold lnA stL
    by_cases c : m = 0
    · rw [if_pos c, if_pos c]
    · rw [if_neg c, if_neg c]; exact (hb (m - 1) (by omega)).2
  have s1 := sn_nI l1 (by omega)
  have s2 := sn_nI l2 (by omega)
  unfold okL isN
  rw [eA, eB, s1, s2]
  exact ⟨⟨l1, k1⟩, ⟨l2, k2⟩, k3, l3, l4, g.1, (hb m hm).1, g.2.2⟩
theorem RI.lawI {B : Nat} {A : AS} (hI : RI B A) {S' : Nat → Int32} (hS : LSP A S') : RI B (lawA A S') := by
  unfold LSP at hS
  unfold lawA
  cases hP : prLaw A.T A.tl with
  | inl f =>
    rw [hP] at hS
    exact RI.usq (RI.dr hI hS)
  | inr q =>
    rw [hP] at hS
    obtain ⟨h1, h2⟩ := hS
    exact ⟨hI.1.law7 h1 h2.1, Str.dr hI.1 hI.2.1 (fun i hi h7 => h1 i (by omega) h7), LWR.InvA hI.2.2.2.2.2.2.1 hP h2, Nat.zero_le _, fun i hi => absurd hi (Nat.not_lt_zero _), hI.2.2.2.2.2.1, Nat.zero_le _, fun i hi => absurd hi (Nat.not_lt_zero _)⟩
