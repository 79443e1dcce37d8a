/-! TABLES: how many orders, by the groups (made by wip/whole/gen89zf.py) -/
section
variable {g f : Nat → Nat} {D : Nat} {T : Nat → Int32} {tl : Nat}
theorem exL_all {w' : Nat → Nat} (h : exL D (List.range' 0 D) w00 w') : ∀ x, x < D → w' x < D := fun x hx => h.2 x (by rw [List.mem_range'_1]; omega)
theorem preO.ck (h3 : tl % 3 = 0) (hT : ∀ i, i < tl → okx (T i) D) {w : Nat → Nat} : preO T D (tl / 3) D w ↔ injN D w ∧ ckP T D (tl / 3) w := by
  constructor
  · intro h
    exact ⟨h.1, fun k hk => h.2 k hk (hT (3 * k) (by omega)).2 (hT (3 * k + 1) (by omega)).2⟩
  · intro h
    exact ⟨h.1, fun k hk _ _ => h.2 k hk⟩
/-- no order at all -/
theorem ordN_no (h0 : 1 ≤ D) (h3 : tl % 3 = 0) (hT : ∀ i, i < tl → okx (T i) D) (h : ∀ w : Nat → Nat, (∀ x, x < D → w x < D) → injN D w → ¬ ckP T D (tl / 3) w) : ordN T D (tl / 3) = 0 := by
  rw [ordN_all h0]
  refine smL_no (List.nodup_range' 1) (fun w' hw' g => ?_)
  have := (preO.ck h3 hT).mp g.1
  exact h w' (exL_all hw') this.1 this.2
theorem ordN_grp (hg : gOK g f D) (h0 : 1 ≤ D) (h9 : D ≤ 9) (h3 : tl % 3 = 0) (hT : ∀ i, i < tl → okx (T i) D) (hc : ∀ w : Nat → Nat, (∀ x, x < D → w x < D) → (gSol g f D w ↔ ckP T D (tl / 3) w)) (hs : spOK g f D) :
    ordN T D (tl / 3) = cL D (pgB g f D) ((List.range D).filter (bigB g f D)) (trN (pgB g f D (g 0)) (D - f 0) D) * facN ((List.range D).filter (sinB g f D)).length := by
  have hr := hg 0 h0
  have hp := lab_perm hg h0 h9
  have hnd : (g 0 :: ((List.range D).filter (bigB g f D) ++ (List.range D).filter (sinB g f D)) ++ (List.range D).filter (zerB g f D)).Nodup := hp.nodup_iff.mpr List.nodup_range
  obtain ⟨hnL, hnz, -⟩ := List.nodup_append.mp hnd
  have hmem : ∀ a, a < D → (g a = a ↔ a ∈ g 0 :: ((List.range D).filter (bigB g f D) ++ (List.range D).filter (sinB g f D))) := fun a ha => by
    have h1 : a ∈ g 0 :: ((List.range D).filter (bigB g f D) ++ (List.range D).filter (sinB g f D)) ++ (List.range D).filter (zerB g f D) := hp.mem_iff.mpr (List.mem_range.mpr ha)
    have h2 := pop_lab hg h9 ha
    constructor
    · intro e
      rcases List.mem_append.mp h1 with h | h
      · exact h
      · have := (List.mem_filter.mp h).2
        simp only [zerB, decide_eq_true_eq] at this
        exact absurd e (h2.mp this)
    · intro h
      refine Classical.byContradiction (fun e => ?_)
      have h5 := h2.mpr e
      rcases List.mem_cons.mp h with h | h
      · rw [h] at e; exact e hr.2.2.1
      · rcases List.mem_append.mp h with h | h
        · have := (List.mem_filter.mp h).2
          simp [bigB] at this
          omega
        · have := (List.mem_filter.mp h).2
          simp [sinB] at this
          omega
  have hltD : ∀ a, a ∈ g 0 :: ((List.range D).filter (bigB g f D) ++ (List.range D).filter (sinB g f D)) → a < D := fun a ha => List.mem_range.mp (hp.mem_iff.mp (List.mem_append_left _ ha))
  have hz : ∀ x, x ∈ (List.range D).filter (zerB g f D) → x < D ∧ g x ≠ x := fun x hx => by
    have h1 := List.mem_range.mp (List.mem_filter.mp hx).1
    have h2 := (List.mem_filter.mp hx).2
    simp only [zerB, decide_eq_true_eq] at h2
    exact ⟨h1, (pop_lab hg h9 h1).mp h2⟩
  generalize hLB : (List.range D).filter (bigB g f D) = LB at hp hnd hnL hmem hltD
  generalize hLS : (List.range D).filter (sinB g f D) = LS at hp hnd hnL hmem hltD
  generalize hLZ : (List.range D).filter (zerB g f D) = LZ at hp hnd hnz hz
  have e1 : ordN T D (tl / 3) = smL D (fun w => ifN (injN D w ∧ gSol g f D w ∧ w 0 = 0) 1 0) (List.range' 0 D) w00 := by
    rw [ordN_all h0]
    refine smL_ext (List.nodup_range' 1) (fun w' hw' => ifN_c ?_)
    rw [preO.ck h3 hT, ← hc w' (exL_all hw')]
    exact ⟨fun h => ⟨h.1.1, h.1.2, h.2⟩, fun h => ⟨⟨h.1, h.2.1⟩, h.2.2⟩⟩
  have e2 : smL D (fun w => ifN (injN D w ∧ gSol g f D w ∧ w 0 = 0) 1 0) (List.range' 0 D) w00 = smL D (fun w => ifN (injN D (tilN g f D w) ∧ tilN g f D w 0 = 0) 1 0) (g 0 :: (LB ++ LS)) w00 := by
    rw [← List.range_eq_range', ← smL_perm hp, smL_append]
    refine smL_ext hnL (fun w' hw' => smL_til hg h0 hnz hz (fun a ha haz => ?_))
    have e : g a = a := Classical.byContradiction (fun e => haz (by rw [← hLZ]; exact List.mem_filter.mpr ⟨List.mem_range.mpr ha, by simp only [zerB, decide_eq_true_eq]; exact (pop_lab hg h9 ha).mpr e⟩))
    have e0 : f a = 0 := by
      have := (hg a ha).2.2.2
      rw [e] at this
      exact this
    show w' a = (w' (g a) + f a) % D
    rw [e, e0, Nat.add_zero, Nat.mod_eq_of_lt (hw'.2 a ((hmem a ha).mp e))]
  have e3 : smL D (fun w => ifN (injN D (tilN g f D w) ∧ tilN g f D w 0 = 0) 1 0) (g 0 :: (LB ++ LS)) w00 = smL D (fun w => ifN (djN D (pgB g f D) (g 0 :: (LB ++ LS)) 0 w ∧ tilN g f D w 0 = 0) 1 0) (g 0 :: (LB ++ LS)) w00 := by
    refine smL_ext hnL (fun w' hw' => ifN_c ?_)
    rw [djN_iff hg h0 h9 hnL (fun l hl => hw'.2 l hl)]
    have hgm : ∀ a, a < D → g a ∈ g 0 :: (LB ++ LS) := fun a ha => (hmem _ (hg a ha).1).mp (hg a ha).2.2.1
    constructor
    · rintro ⟨h1, h2⟩
      refine ⟨⟨fun a b ha hb _ _ hne => ?_, fun a ha _ => Nat.zero_testBit _⟩, h2⟩
      rcases Nat.lt_trichotomy a b with c | c | c
      · exact h1 a b c hb
      · exact absurd (by rw [c]) hne
      · exact fun e => h1 b a c ha e.symm
    · rintro ⟨⟨h1, _⟩, h2⟩
      refine ⟨fun a b hab hb => ?_, h2⟩
      have ha : a < D := by omega
      by_cases c : g a = g b
      · intro e
        have e : (w' (g a) + f a) % D = (w' (g b) + f b) % D := e
        rw [← c] at e
        exact hs.inj hab hb c (md_inj h0 h9 (hw'.2 _ (hgm a ha)) (hg a ha).2.1 (hg b hb).2.1 e)
      · exact h1 a b ha hb (hgm a ha) (hgm b hb) c
  obtain ⟨hn1, hn2⟩ := List.nodup_cons.mp hnL
  have hb0 := Nat.mod_lt (D - f 0) (show 0 < D by omega)
  have e4 : smL D (fun w => ifN (djN D (pgB g f D) (g 0 :: (LB ++ LS)) 0 w ∧ tilN g f D w 0 = 0) 1 0) (g 0 :: (LB ++ LS)) w00 = cL D (pgB g f D) (LB ++ LS) (trN (pgB g f D (g 0)) (D - f 0) D) := by
    have hw : ∀ v w', exL D (LB ++ LS) (uN w00 (g 0) v) w' → w' (g 0) = v := fun v w' h => (h.1 _ hn1).trans uN_self
    have hz2 : ∀ v, v < D → v ≠ (D - f 0) % D → smL D (fun w => ifN (djN D (pgB g f D) (g 0 :: (LB ++ LS)) 0 w ∧ tilN g f D w 0 = 0) 1 0) (LB ++ LS) (uN w00 (g 0) v) = 0 := fun v hv hne => smL_no hn2 (fun w' hw' h => by
      have h2 : (w' (g 0) + f 0) % D = 0 := h.2
      rw [hw v w' hw'] at h2
      exact hne ((md_zero h0 h9 hr.2.1 hv).mp h2))
    have ht : trN (pgB g f D (g 0)) (D - f 0) D = trN (pgB g f D (g 0)) ((D - f 0) % D) D := by
      by_cases c : f 0 = 0
      · rw [c, Nat.sub_zero, Nat.mod_self, tr_end D (by omega) _ (pgB_lt hg (Nat.le_refl D) _)]
      · rw [Nat.mod_eq_of_lt (by omega)]
    show sm1 (fun v => smL D _ (LB ++ LS) (uN w00 (g 0) v)) D = _
    rw [sm1_one hb0 hz2, ht, ← cL_ok (w := uN w00 (g 0) ((D - f 0) % D)) hn2]
    refine smL_ext hn2 (fun w' hw' => ifN_c ?_)
    show ((trN (pgB g f D (g 0)) (w' (g 0)) D &&& 0 = 0 ∧ djN D (pgB g f D) (LB ++ LS) (0 ||| trN (pgB g f D (g 0)) (w' (g 0)) D) w') ∧ (w' (g 0) + f 0) % D = 0) ↔ _
    rw [hw _ w' hw', Nat.zero_or, Nat.and_zero]
    exact ⟨fun h => h.1.2, fun h => ⟨⟨rfl, h⟩, (md_zero h0 h9 hr.2.1 hb0).mpr rfl⟩⟩
  rw [e1, e2, e3, e4]
  refine cL_split h9 (fun l => pgB_lt hg (Nat.le_refl D) l) (fun l hl => ?_) tr_lt ?_
  · have hl9 : l ∈ (List.range D).filter (sinB g f D) := by rw [hLS]; exact hl
    have h1 := List.mem_range.mp (List.mem_filter.mp hl9).1
    have h2 := (List.mem_filter.mp hl9).2
    have h2 : ¬ l = g 0 ∧ popB g f D l = 1 := by simpa [sinB] using h2
    have e : g l = l := Classical.byContradiction (fun e => by have := (pop_lab hg h9 h1).mpr e; omega)
    refine popc_one _ (pgB_up hg h9 D (Nat.le_refl _) l) (pgB_bit.mpr ⟨l, h1, e, ?_⟩) h2.2
    have := (hg l h1).2.2.2
    rw [e] at this
    exact this
  · have h1 := pop_all hg h9 hs D (Nat.le_refl _)
    rw [← sm1_list] at h1
    have h2 := (hp.map (fun l => popc 9 (pgB g f D l))).sum_nat
    have hz3 : (LZ.map (fun l => popc 9 (pgB g f D l))).sum = 0 := by
      have : ∀ M : List Nat, (∀ l, l ∈ M → popc 9 (pgB g f D l) = 0) → (M.map (fun l => popc 9 (pgB g f D l))).sum = 0 := fun M => by
        induction M with
        | nil => exact fun _ => rfl
        | cons x M ih => exact fun h => by rw [List.map_cons, List.sum_cons, h x List.mem_cons_self, ih (fun l hl => h l (List.mem_cons_of_mem _ hl))]
      exact this LZ (fun l hl => (pop_lab hg h9 (hz l hl).1).mpr (hz l hl).2)
    have hs3 : (LS.map (fun l => popc 9 (pgB g f D l))).sum = LS.length := by
      have : ∀ M : List Nat, (∀ l, l ∈ M → popc 9 (pgB g f D l) = 1) → (M.map (fun l => popc 9 (pgB g f D l))).sum = M.length := fun M => by
        induction M with
        | nil => exact fun _ => rfl
        | cons x M ih => exact fun h => by rw [List.map_cons, List.sum_cons, h x List.mem_cons_self, ih (fun l hl => h l (List.mem_cons_of_mem _ hl)), List.length_cons, Nat.add_comm]
      refine this LS (fun l hl => ?_)
      have hl9 : l ∈ (List.range D).filter (sinB g f D) := by rw [hLS]; exact hl
      have h2 := (List.mem_filter.mp hl9).2
      have h2 : ¬ l = g 0 ∧ popB g f D l = 1 := by simpa [sinB] using h2
      exact h2.2
    rw [List.map_append, List.sum_append_nat, List.map_cons, List.sum_cons, List.map_append, List.sum_append_nat, hz3, hs3, h1] at h2
    rw [popc_tr D (by omega) _ (pgB_lt hg (Nat.le_refl D) _) (D - f 0) (by omega)]
    omega
end
