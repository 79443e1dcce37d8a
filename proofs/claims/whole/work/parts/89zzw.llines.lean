/-! LAW: each line that is read is well made (made by wip/whole/gen89zzw.py) -/
/-- where a line begins -/
def stL (L : LLn) (i : Nat) : Nat := if i = 0 then 0 else (L.getD (i - 1) (0, 0, 0)).2.2
/-- a line's code is such a piece, or there is none -/
def lnK (E : LE) (a b : Nat) : Prop := ∃ X C Y : LE, E = X ++ C ++ Y ∧ X.length = a ∧ X.length + C.length = b ∧ (C = [] ∨ CG C 17 true)
def LK (E : LE) (L : LLn) : Prop := ∀ i, i < L.length → (L.getD i (0, 0, 0)).1 < 3 ∧ (L.getD i (0, 0, 0)).2.1 < 100 ∧ ((L.getD i (0, 0, 0)).1 ≠ 2 → (L.getD i (0, 0, 0)).2.1 = 1) ∧ lnK E (stL L i) (L.getD i (0, 0, 0)).2.2
theorem lnK.app {E Z : LE} {a b : Nat} (h : lnK E a b) : lnK (E ++ Z) a b := by
  obtain ⟨X, C, Y, e, h⟩ := h
  exact ⟨X, C, Y ++ Z, by rw [e, List.append_assoc], h⟩
section
variable {T : Nat → Int32} {n : Nat}
theorem LK.app {E Z : LE} {L : LLn} {x : Nat × Nat × Nat} (h : LK E L) (hx : x.1 < 3 ∧ x.2.1 < 100 ∧ (x.1 ≠ 2 → x.2.1 = 1) ∧ lnK (E ++ Z) (stL L L.length) x.2.2) : LK (E ++ Z) (L ++ [x]) := fun i hi => by
  rw [List.length_append] at hi
  have hi : i < L.length + 1 := hi
  have es : stL (L ++ [x]) i = stL L i := by
    unfold stL
    by_cases c : i = 0
    · rw [if_pos c, if_pos c]
    · rw [if_neg c, if_neg c, getD_app (by omega), if_neg (by omega)]
  rw [es, getD_app hi]
  by_cases c : i = L.length
  · rw [if_pos c, c]; exact hx
  · rw [if_neg c]
    have g := h i (by omega)
    exact ⟨g.1, g.2.1, g.2.2.1, g.2.2.2.app⟩
theorem stL_end {E : LE} {L : LLn} (h : EOK E L) : stL L L.length = E.length := h
theorem plCond_K {k : Nat} (hk : k ≤ n) {E : LE} {q : Nat × LE} (h : plCond T n k E = .inr q) : ∃ C, q.2 = E ++ C ∧ (C = [] ∨ CG C 17 true) := by
  have hx := nxK_ok (T := T) hk
  unfold plCond at h
  by_cases c : isW T n k (am_SL 20)
  · rw [sel_t c] at h
    obtain ⟨C, e1, e2⟩ := pCnd_K (pAtm_K 6) (fun k hk E => pAtm_g 6 hk E) _ hx.2.1 E q h
    exact ⟨C, e1, Or.inr e2⟩
  · rw [sel_f c] at h
    cases h
    exact ⟨[], (List.append_nil _).symm, Or.inl rfl⟩
theorem plGain_K {k kd : Nat} (hk : k ≤ n) {g : Nat × Nat} (h : plGain T n k kd = .inr g) : g.1 ≤ n ∧ g.2 < 100 ∧ (kd ≠ 2 → g.2 = 1) := by
  have hx := nxK_ok (T := T) hk
  unfold plGain at h
  by_cases c : kd = 2
  · rw [if_pos c] at h
    by_cases t : tkP T n k 3 0 100
    · rw [sel_t t] at h; cases h; exact ⟨hx.2.1, t.2.2.2, fun h => absurd c h⟩
    · rw [sel_f t] at h; cases h
  · rw [if_neg c] at h
    cases h
    exact ⟨hk, show 1 < 100 by decide, fun _ => rfl⟩
theorem plLine_LK {k : Nat} (hk : k ≤ n) {E : LE} {L : LLn} {q : Nat × LE × LLn} (hL : LK E L) (hO : EOK E L) (h : plLine T n k E L = .inr q) : LK q.2.1 q.2.2 := by
  have hx := nxK_ok (T := T) hk
  by_cases c : kdW T n k < 3
  · cases hG : plGain T n (nxK T n k) (kdW T n k) with
    | inl f => rw [plLine_g c hG] at h; cases h
    | inr g =>
      have gg := plGain_K hx.2.1 hG
      cases hC : plCond T n g.1 E with
      | inl f => rw [plLine_c c hG hC] at h; cases h
      | inr v =>
        rw [plLine_r c hG hC] at h
        cases h
        obtain ⟨C, e1, e2⟩ := plCond_K gg.1 hC
        show LK v.2 (L ++ [(kdW T n k, g.2, v.2.length)])
        rw [e1]
        refine hL.app ⟨c, gg.2.1, gg.2.2, E, C, [], by rw [List.append_nil], (stL_end hO).symm, ?_, e2⟩
        show E.length + C.length = (E ++ C).length
        rw [List.length_append]
  · rw [plLine_k c] at h; cases h
theorem raL_LK : ∀ (j k : Nat) (E : LE) (L : LLn) (q : Nat × LE × LLn), k ≤ n → E.length ≤ k → LK E L → EOK E L → raL T n j k E L = .inr q → LK q.2.1 q.2.2
  | 0, _, _, _, _, _, _, _, _, h => by cases h
  | j + 1, k, E, L, q, hk, hE, hL, hO, h => by
    cases hR : plLine T n k E L with
    | inl f => rw [raL_at hR] at h; cases h
    | inr v =>
      rw [raL_go hR] at h
      have g := plLine_LK hk hL hO hR
      have g1 := plLine_n hk hE hR
      have g2 := plLine_e hR
      by_cases c : n ≤ spK T n v.1
      · rw [sel_t c] at h; cases h; exact g
      · rw [sel_f c] at h
        by_cases c2 : isW T n v.1 [59]
        · rw [sel_t c2] at h
          have g3 := nx_w g1.2.1 (by decide) c2
          exact raL_LK j _ _ _ _ g3.2.1 (by omega) g g2 h
        · rw [sel_f c2] at h; cases h
theorem prLaw_LK {q : Nat × LE × LLn} (h : prLaw T n = .inr q) : LK q.2.1 q.2.2 := by
  unfold prLaw at h
  by_cases c : n ≤ spK T n 0
  · rw [sel_t c] at h; cases h; exact fun i hi => absurd hi (Nat.not_lt_zero _)
  · rw [sel_f c] at h
    exact raL_LK 12 0 [] [] q (Nat.zero_le _) (Nat.zero_le _) (fun i hi => absurd hi (Nat.not_lt_zero _)) rfl h
end
