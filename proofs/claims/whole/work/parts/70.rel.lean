/-! WHAT IS, for both -/
abbrev AS : Type := (Nat → Int32) × Nat × (Nat → Nat → Int32) × Nat × (Nat → Int32) × (Nat → Int32) × Nat × Int32
abbrev AS.S (A : AS) : Nat → Int32 := A.1
abbrev AS.n (A : AS) : Nat := A.2.1
abbrev AS.ac (A : AS) : Nat → Nat → Int32 := A.2.2.1
abbrev AS.f (A : AS) : Nat := A.2.2.2.1
abbrev AS.im (A : AS) : Nat → Int32 := A.2.2.2.2.1
abbrev AS.T (A : AS) : Nat → Int32 := A.2.2.2.2.2.1
abbrev AS.tl (A : AS) : Nat := A.2.2.2.2.2.2.1
abbrev AS.q (A : AS) : Int32 := A.2.2.2.2.2.2.2
/-- the numbers of a life -/
def lifeN (i : Nat) : Prop := noLand i ∧ i ≠ 7 ∧ i < 709
def kpL (S T : Nat → Int32) : Prop := ∀ i, ¬ lifeN i → T i = S i
theorem kpL.rf (S : Nat → Int32) : kpL S S := fun _ _ => rfl
theorem kpL.tr {S T U : Nat → Int32} (h : kpL S T) (g : kpL T U) : kpL S U := fun i hi => (g i hi).trans (h i hi)
theorem kpL.sy {S T : Nat → Int32} (h : kpL S T) : kpL T S := fun i hi => (h i hi).symm
/-- always true -/
def RI (B : Nat) (A : AS) : Prop := Inv B A.S ∧ Str A.S ∧ InvA A.S ∧ A.n ≤ 12 ∧ (∀ i, i < A.n → Inv B (A.ac i) ∧ Str (A.ac i) ∧ kpL A.S (A.ac i)) ∧ (A.f ≤ 1 ∧ (A.f = 1 → Inv B A.im ∧ Str A.im ∧ InvA A.im)) ∧ A.tl ≤ 400 ∧ ∀ i, i < A.tl → vp_nar .byte (A.T i) = A.T i
/-- in the class's cells -/
def RC (A : AS) (p : Nat → Nat) (sg : Mg) : Prop := okp p ∧ cwW 200 sg A.S ∧ sg 0 11 = nI A.n ∧ (∀ i, i < A.n → cwL (500 + 20 * p i) sg (A.ac i)) ∧ sg 0 12 = nI A.f ∧ (A.f = 1 → cwW 400 sg A.im) ∧ sg 1 1 = nI A.tl ∧ (∀ i, i < A.tl → sg 2 i = A.T i) ∧ sg 1 5 = A.q ∧ sg 23 0 = 0
/-- in the reference's cells -/
def RM (A : AS) (sg : Mg) : Prop := sg 801 = A.S ∧ sg 800 6 = nI A.n ∧ (∀ i j, i < A.n → j < 709 → sg 804 (709 * i + j) = A.ac i j) ∧ sg 800 5 = nI A.f ∧ (A.f = 1 → ∀ j, j < 1558 → sg 802 j = A.im j) ∧ sg 800 8 = nI A.tl ∧ (∀ i, i < A.tl → sg 805 i = A.T i) ∧ sg 800 13 = A.q ∧ sg 815 0 = 0
/-- an act: what was is remembered -/
def AS.act (A : AS) (S' : Nat → Int32) : AS := (S', min (A.n + 1) 12, fun i => if i = min A.n 11 then A.S else if A.n = 12 then A.ac (i + 1) else A.ac i, A.f, A.im, A.T, A.tl, A.q)
theorem RI.act {B : Nat} {A : AS} (h : RI B A) {S' : Nat → Int32} (h1 : Inv B S') (h2 : Str S') (h3 : kpL A.S S') : RI B (A.act S') := by
  obtain ⟨a1, a2, a3, a4, a5, a6, a7, a8⟩ := h
  refine ⟨h1, h2, a3.ext (fun i hi => h3 i (by unfold lifeN; omega)), by show min (A.n + 1) 12 ≤ 12; omega, fun i hi => ?_, a6, a7, a8⟩
  have hi : i < min (A.n + 1) 12 := hi
  show Inv B (if i = min A.n 11 then A.S else if A.n = 12 then A.ac (i + 1) else A.ac i) ∧ Str (if i = min A.n 11 then A.S else if A.n = 12 then A.ac (i + 1) else A.ac i) ∧ kpL S' (if i = min A.n 11 then A.S else if A.n = 12 then A.ac (i + 1) else A.ac i)
  split
  · exact ⟨a1, a2, h3.sy⟩
  · split
    · have := a5 (i + 1) (by omega)
      exact ⟨this.1, this.2.1, h3.sy.tr this.2.2⟩
    · have := a5 i (by omega)
      exact ⟨this.1, this.2.1, h3.sy.tr this.2.2⟩
theorem Inv.mono {B B' : Nat} {S : Nat → Int32} (h : Inv B S) (hB : B ≤ B') (h2 : B' ≤ 200000) : Inv B' S := by
  obtain ⟨h1, h3⟩ := h
  refine ⟨?_, h3⟩
  obtain ⟨c0, c1, c2, c3, c4, c5, c6, c7, c8, c9⟩ := h1
  exact ⟨c0, c1, c2, c3, c4, c5, c6, c7, ⟨⟨c8.1.1, by have := c8.1.2; omega⟩, h2⟩, c9⟩
theorem RI.mono {B B' : Nat} {A : AS} (h : RI B A) (hB : B ≤ B') (h2 : B' ≤ 200000) : RI B' A := by
  obtain ⟨a1, a2, a3, a4, a5, a6, a7⟩ := h
  exact ⟨a1.mono hB h2, a2, a3, a4, fun i hi => ⟨(a5 i hi).1.mono hB h2, (a5 i hi).2⟩, ⟨a6.1, fun hf => ⟨(a6.2 hf).1.mono hB h2, (a6.2 hf).2⟩⟩, a7⟩
/-- the class's acts keep what is -/
theorem RC.act {A : AS} {p : Nat → Nat} {sg s s' : Mg} (hR : RC A p sg) {B : Nat} (hI : RI B A)
    (h1 : ∀ c, c ≠ 0 → c < 500 + 20 * rem_p p A.n (min A.n 11) ∨ 500 + 20 * rem_p p A.n (min A.n 11) + 18 ≤ c → s c = sg c)
    (h2 : ∀ k, k ≠ 11 → s 0 k = sg 0 k) (h3 : s 0 11 = nI (min (A.n + 1) 12)) (h4 : ∀ S, sn S 14 ≤ 100 → cwL 250 sg S → cwL (500 + 20 * rem_p p A.n (min A.n 11)) s S)
    {S' : Nat → Int32} (hF : DF s s') (hC : CS s' S') (hk : kpL A.S S') : RC (A.act S') (rem_p p A.n) s' := by
  obtain ⟨r1, r2, r3, r4, r5, r6, r7, r8, r9, r10⟩ := hR
  have n12 := hI.2.2.2.1
  have hp : okp (rem_p p A.n) := by
    unfold rem_p
    split
    · exact rotp_ok r1
    · exact r1
  have hq := hp.1 (min A.n 11) (by omega)
  refine ⟨hp, ⟨hC.1, hC.2, ?_⟩, ?_, fun i hi => ?_, ?_, fun hf => ?_, ?_, fun i hi => ?_, ?_, ?_⟩
  · refine (cwA.eqx (m := []) (sg := sg) r2.2.2 (fun c c1 c2 => ?_)).ext (fun i hi => hk i (by unfold lifeN; omega))
    rw [hF c (by omega) (by omega) (by omega) (by omega) (by omega), h1 c (by omega) (by omega)]
  · rw [hF 0 (by omega) (by omega) (by omega) (by omega) (by omega)]
    exact h3
  · have hi : i < min (A.n + 1) 12 := hi
    have e : ∀ c, 500 + 20 * rem_p p A.n i ≤ c → c < 500 + 20 * rem_p p A.n i + 18 → s' c = s c := fun c c1 c2 => hF c (by omega) (by omega) (by omega) (by omega) (by omega)
    show cwL (500 + 20 * rem_p p A.n i) s' (if i = min A.n 11 then A.S else if A.n = 12 then A.ac (i + 1) else A.ac i)
    refine cwL.eqc (sg := s) ?_ e
    by_cases hm : i = min A.n 11
    · rw [if_pos hm, hm]
      exact h4 _ hI.1.b14 r2.1
    · rw [if_neg hm]
      have hne : rem_p p A.n i ≠ rem_p p A.n (min A.n 11) := fun h => hm (hp.2 _ _ (by omega) (by omega) h)
      have e2 : ∀ c, 500 + 20 * rem_p p A.n i ≤ c → c < 500 + 20 * rem_p p A.n i + 18 → s c = sg c := fun c c1 c2 => h1 c (by omega) (by omega)
      refine cwL.eqc (sg := sg) ?_ e2
      by_cases h12 : A.n = 12
      · rw [if_pos h12]
        unfold rem_p
        rw [if_pos h12, rotp_lt (by omega)]
        exact r4 (i + 1) (by omega)
      · rw [if_neg h12]
        unfold rem_p
        rw [if_neg h12]
        exact r4 i (by omega)
  · rw [hF 0 (by omega) (by omega) (by omega) (by omega) (by omega), h2 12 (by omega)]
    exact r5
  · have g : ∀ c, 400 ≤ c → c < 500 → s' c = sg c := fun c c1 c2 => by
      rw [hF c (by omega) (by omega) (by omega) (by omega) (by omega), h1 c (by omega) (by omega)]
    have r := r6 hf
    exact ⟨cwL.eqc r.1 (fun c c1 c2 => g c (by omega) (by omega)), cwD.eqc r.2.1 (fun c c1 => g c (by omega) (by omega)), cwA.eqx (m := []) r.2.2 (fun c c1 c2 => g c (by omega) (by omega))⟩
  · rw [hF 1 (by omega) (by omega) (by omega) (by omega) (by omega), h1 1 (by omega) (by omega)]
    exact r7
  · rw [hF 2 (by omega) (by omega) (by omega) (by omega) (by omega), h1 2 (by omega) (by omega)]
    exact r8 i hi
  · rw [hF 1 (by omega) (by omega) (by omega) (by omega) (by omega), h1 1 (by omega) (by omega)]
    exact r9
  · rw [hF 23 (by omega) (by omega) (by omega) (by omega) (by omega), h1 23 (by omega) (by omega)]
    exact r10
/-- the reference's acts keep what is -/
theorem RM.act {A : AS} {sg s' : Mg} (hR : RM A sg) {B : Nat} (hI : RI B A) {S' : Nat → Int32}
    (h1 : ∀ c, c ≠ 800 → c ≠ 801 → c ≠ 804 → c ≠ 807 → c ≠ 808 → s' c = sg c) (h2 : ∀ k, k ≠ 0 → k ≠ 6 → s' 800 k = sg 800 k) (h3 : s' 800 6 = nI (min (A.n + 1) 12)) (h4 : s' 804 = actF sg A.n) (h5 : s' 801 = S') : RM (A.act S') s' := by
  obtain ⟨r1, r2, r3, r4, r5, r6, r7, r8, r9⟩ := hR
  have n12 := hI.2.2.2.1
  refine ⟨h5, h3, fun i j hi hj => ?_, ?_, fun hf j hj => ?_, ?_, fun i hi => ?_, ?_, ?_⟩
  · have hi : i < min (A.n + 1) 12 := hi
    rw [h4]
    show actF sg A.n (709 * i + j) = (if i = min A.n 11 then A.S else if A.n = 12 then A.ac (i + 1) else A.ac i) j
    unfold actF
    by_cases h12 : A.n = 12
    · rw [if_pos h12, if_pos h12]
      by_cases hm : i = min A.n 11
      · rw [if_pos (by omega), if_pos hm, ← r1]
        exact congrArg (sg _) (by omega)
      · rw [if_neg (by omega), if_pos (by omega), if_neg hm, ← r3 (i + 1) j (by omega) hj]
        exact congrArg (sg _) (by omega)
    · rw [if_neg h12, if_neg h12]
      by_cases hm : i = min A.n 11
      · have e : i = A.n := by omega
        rw [if_pos (by rw [e]; omega), if_pos hm, ← r1, e]
        exact congrArg (sg _) (by omega)
      · rw [if_neg (by omega), if_neg hm, r3 i j (by omega) hj]
  · rw [h2 5 (by omega) (by omega)]
    exact r4
  · rw [h1 802 (by omega) (by omega) (by omega) (by omega) (by omega)]
    exact r5 hf j hj
  · rw [h2 8 (by omega) (by omega)]
    exact r6
  · rw [h1 805 (by omega) (by omega) (by omega) (by omega) (by omega)]
    exact r7 i hi
  · rw [h2 13 (by omega) (by omega)]
    exact r8
  · rw [h1 815 (by omega) (by omega) (by omega) (by omega) (by omega)]
    exact r9
