/-! TABLES: how many orders (made by wip/whole/gen89ze.py) -/
section
variable {g f : Nat → Nat} {D : Nat}
/-- no two days of a group share a page -/
def spOK (g f : Nat → Nat) (D : Nat) : Prop := ∀ j, j < D → (pgB g f j (g j)).testBit (f j) = false
theorem pgB_bit : ∀ {j l y : Nat}, (pgB g f j l).testBit y = true ↔ ∃ x, x < j ∧ g x = l ∧ f x = y
  | 0, l, y => ⟨fun h => (by rw [show pgB g f 0 l = 0 from rfl, Nat.zero_testBit] at h; cases h), fun ⟨x, hx, _⟩ => absurd hx (Nat.not_lt_zero _)⟩
  | j + 1, l, y => by
    have ih := pgB_bit (j := j) (l := l) (y := y)
    show (if g j = l then pgB g f j l ||| 2 ^ f j else pgB g f j l).testBit y = true ↔ _
    by_cases c : g j = l
    · rw [if_pos c, Nat.testBit_or, Bool.or_eq_true, ih, Nat.testBit_two_pow, decide_eq_true_eq]
      constructor
      · rintro (⟨x, h1, h2, h3⟩ | h)
        · exact ⟨x, by omega, h2, h3⟩
        · exact ⟨j, by omega, c, h⟩
      · rintro ⟨x, h1, h2, h3⟩
        by_cases e : x = j
        · subst e; exact Or.inr h3
        · exact Or.inl ⟨x, by omega, h2, h3⟩
    · rw [if_neg c, ih]
      constructor
      · rintro ⟨x, h1, h2, h3⟩
        exact ⟨x, by omega, h2, h3⟩
      · rintro ⟨x, h1, h2, h3⟩
        by_cases e : x = j
        · subst e; exact absurd h2 c
        · exact ⟨x, by omega, h2, h3⟩
theorem pgB_lt (hg : gOK g f D) : ∀ {j : Nat}, j ≤ D → ∀ l, pgB g f j l < 2 ^ D
  | 0, _, _ => Nat.two_pow_pos D
  | j + 1, hj, l => by
    have ih := pgB_lt hg (j := j) (by omega) l
    have := hg j (by omega)
    show (if g j = l then pgB g f j l ||| 2 ^ f j else pgB g f j l) < 2 ^ D
    split
    · exact Nat.or_lt_two_pow ih (Nat.pow_lt_pow_right (by decide) this.2.1)
    · exact ih
theorem spOK.inj (h : spOK g f D) {a b : Nat} (hab : a < b) (hb : b < D) (e : g a = g b) : f a ≠ f b := fun h2 => by
  have := h b hb
  rw [pgB_bit.mpr ⟨a, hab, e, h2⟩] at this
  cases this
theorem md_inj {x a b : Nat} (h0 : 1 ≤ D) (h9 : D ≤ 9) (hx : x < D) (ha : a < D) (hb : b < D) (h : (x + a) % D = (x + b) % D) : a = b := by
  have hD : D = 1 ∨ D = 2 ∨ D = 3 ∨ D = 4 ∨ D = 5 ∨ D = 6 ∨ D = 7 ∨ D = 8 ∨ D = 9 := by omega
  rcases hD with rfl | rfl | rfl | rfl | rfl | rfl | rfl | rfl | rfl <;> omega
theorem md_back {b y : Nat} (h0 : 1 ≤ D) (h9 : D ≤ 9) (hb : b < D) (hy : y < D) : ((y + D - b) % D + b) % D = y := by
  have hD : D = 1 ∨ D = 2 ∨ D = 3 ∨ D = 4 ∨ D = 5 ∨ D = 6 ∨ D = 7 ∨ D = 8 ∨ D = 9 := by omega
  rcases hD with rfl | rfl | rfl | rfl | rfl | rfl | rfl | rfl | rfl <;> omega
theorem md_zero {a v : Nat} (h0 : 1 ≤ D) (h9 : D ≤ 9) (ha : a < D) (hv : v < D) : (v + a) % D = 0 ↔ v = (D - a) % D := by
  have hD : D = 1 ∨ D = 2 ∨ D = 3 ∨ D = 4 ∨ D = 5 ∨ D = 6 ∨ D = 7 ∨ D = 8 ∨ D = 9 := by omega
  rcases hD with rfl | rfl | rfl | rfl | rfl | rfl | rfl | rfl | rfl <;> omega
theorem and0_iff {a b : Nat} : a &&& b = 0 ↔ ∀ i, a.testBit i = true → b.testBit i = false := by
  constructor
  · intro h i hi
    have := congrArg (fun n => n.testBit i) h
    simp only [Nat.testBit_and, Nat.zero_testBit, hi, Bool.true_and] at this
    exact this
  · intro h
    apply Nat.eq_of_testBit_eq
    intro i
    rw [Nat.testBit_and, Nat.zero_testBit]
    cases c : a.testBit i
    · rfl
    · rw [h i c]; rfl
/-- the pages of a group turned -/
theorem trB (hg : gOK g f D) (h0 : 1 ≤ D) (h9 : D ≤ 9) {w : Nat → Nat} {l y : Nat} (hw : w l < D) : (trN (pgB g f D l) (w l) D).testBit y = true ↔ ∃ x, x < D ∧ g x = l ∧ tilN g f D w x = y := by
  have hP := pgB_lt hg (Nat.le_refl D) l
  constructor
  · intro h
    have hy : y < D := by
      rcases Nat.lt_or_ge y D with c | c
      · exact c
      · rw [Nat.testBit_lt_two_pow (Nat.lt_of_lt_of_le tr_lt (Nat.pow_le_pow_right (by decide) c))] at h
        cases h
    have e := md_back h0 h9 hw hy
    have hx0 := Nat.mod_lt (y + D - w l) (show 0 < D by omega)
    rw [← e, tr_bit D (by omega) _ hP (w l) (by omega) _ hx0] at h
    obtain ⟨x, h1, h2, h3⟩ := pgB_bit.mp h
    refine ⟨x, h1, h2, ?_⟩
    show (w (g x) + f x) % D = y
    rw [h2, h3, Nat.add_comm]; exact e
  · rintro ⟨x, h1, h2, h3⟩
    have h3 : (w (g x) + f x) % D = y := h3
    rw [← h3, h2, Nat.add_comm, tr_bit D (by omega) _ hP (w l) (by omega) _ (hg x h1).2.1]
    exact pgB_bit.mpr ⟨x, h1, h2, rfl⟩
theorem djN_iff (hg : gOK g f D) (h0 : 1 ≤ D) (h9 : D ≤ 9) {w : Nat → Nat} : ∀ {L : List Nat} {t : Nat}, L.Nodup → (∀ l, l ∈ L → w l < D) → (djN D (pgB g f D) L t w ↔ (∀ a b, a < D → b < D → g a ∈ L → g b ∈ L → g a ≠ g b → tilN g f D w a ≠ tilN g f D w b) ∧ ∀ a, a < D → g a ∈ L → t.testBit (tilN g f D w a) = false)
  | [], t, _, _ => ⟨fun _ => ⟨fun _ _ _ _ h => (nomatch h), fun _ _ h => (nomatch h)⟩, fun _ => trivial⟩
  | l :: L, t, hn, hw => by
    obtain ⟨hl, hn2⟩ := List.nodup_cons.mp hn
    have ih := djN_iff hg h0 h9 (w := w) (L := L) (t := t ||| trN (pgB g f D l) (w l) D) hn2 (fun x hx => hw x (List.mem_cons_of_mem _ hx))
    have hB := fun y => trB (y := y) hg h0 h9 (hw l List.mem_cons_self)
    show (trN (pgB g f D l) (w l) D &&& t = 0 ∧ djN D (pgB g f D) L (t ||| trN (pgB g f D l) (w l) D) w) ↔ _
    rw [ih, and0_iff]
    constructor
    · rintro ⟨h1, h2, h3⟩
      have h4 : ∀ a, a < D → g a ∈ L → t.testBit (tilN g f D w a) = false ∧ (trN (pgB g f D l) (w l) D).testBit (tilN g f D w a) = false := fun a ha haL => by
        have := h3 a ha haL
        rw [Nat.testBit_or, Bool.or_eq_false_iff] at this
        exact this
      have h5 : ∀ a b, a < D → b < D → g a = l → g b ∈ L → tilN g f D w a ≠ tilN g f D w b := fun a b ha hb h hbL e => by
        have := (h4 b hb hbL).2
        rw [(hB _).mpr ⟨a, ha, h, e⟩] at this
        cases this
      refine ⟨fun a b ha hb haL hbL hne => ?_, fun a ha haL => ?_⟩
      · rcases List.mem_cons.mp haL with e | e <;> rcases List.mem_cons.mp hbL with e2 | e2
        · exact absurd (e.trans e2.symm) hne
        · exact h5 a b ha hb e e2
        · exact fun h => h5 b a hb ha e2 e h.symm
        · exact h2 a b ha hb e e2 hne
      · rcases List.mem_cons.mp haL with e | e
        · exact h1 _ ((hB _).mpr ⟨a, ha, e, rfl⟩)
        · exact (h4 a ha e).1
    · rintro ⟨h1, h2⟩
      refine ⟨fun i hi => ?_, fun a b ha hb haL hbL => h1 a b ha hb (List.mem_cons_of_mem _ haL) (List.mem_cons_of_mem _ hbL), fun a ha haL => ?_⟩
      · obtain ⟨x, x1, x2, rfl⟩ := (hB i).mp hi
        exact h2 x x1 (by rw [x2]; exact List.mem_cons_self)
      · rw [Nat.testBit_or, h2 a ha (List.mem_cons_of_mem _ haL), Bool.false_or]
        cases c : (trN (pgB g f D l) (w l) D).testBit (tilN g f D w a)
        · rfl
        · obtain ⟨x, x1, x2, x3⟩ := (hB _).mp c
          exact absurd x3 (h1 x a x1 ha (by rw [x2]; exact List.mem_cons_self) (List.mem_cons_of_mem _ haL) (fun e => hl (by rw [← x2, e]; exact haL)))
/-- groups of more than one day, days alone, days that name no group -/
def popB (g f : Nat → Nat) (D l : Nat) : Nat := popc 9 (pgB g f D l)
def bigB (g f : Nat → Nat) (D l : Nat) : Bool := !decide (l = g 0) && decide (1 < popB g f D l)
def sinB (g f : Nat → Nat) (D l : Nat) : Bool := !decide (l = g 0) && decide (popB g f D l = 1)
def zerB (g f : Nat → Nat) (D l : Nat) : Bool := decide (popB g f D l = 0)
theorem pop_lab (hg : gOK g f D) (h9 : D ≤ 9) {l : Nat} (hl : l < D) : popB g f D l = 0 ↔ g l ≠ l := by
  have hP := pgB_up hg h9 D (Nat.le_refl _) l
  constructor
  · intro h e
    have h1 := popc_pos _ hP h
    have h2 : (pgB g f D l).testBit (f l) = true := pgB_bit.mpr ⟨l, hl, e, rfl⟩
    rw [h1, Nat.zero_testBit] at h2
    cases h2
  · intro h
    have h1 : pgB g f D l = 0 := by
      apply Nat.eq_of_testBit_eq
      intro i
      rw [Nat.zero_testBit]
      cases c : (pgB g f D l).testBit i
      · rfl
      · obtain ⟨x, x1, x2, x3⟩ := pgB_bit.mp c
        exact absurd (by rw [← x2]; exact (hg x x1).2.2.1) h
    unfold popB
    rw [h1]
    rfl
theorem pop_all (hg : gOK g f D) (h9 : D ≤ 9) (hs : spOK g f D) : ∀ j, j ≤ D → sm1 (fun l => popc 9 (pgB g f j l)) D = j
  | 0, _ => sm1_zero (fun l _ => (rfl : popc 9 0 = 0))
  | j + 1, hj => by
    have hj2 := hg j (by omega)
    have e : ∀ l, l < D → popc 9 (pgB g f (j + 1) l) = popc 9 (pgB g f j l) + (if l = g j then 1 else 0) := fun l hl => by
      show popc 9 (if g j = l then pgB g f j l ||| 2 ^ f j else pgB g f j l) = _
      by_cases c : g j = l
      · subst c
        rw [if_pos rfl, if_pos rfl, popc_or _ _ _ ((pw_and _ (pgB_up hg h9 j (by omega) _) _ (by omega)).mpr (hs j (by omega))), popc_pow _ (by omega)]
      · rw [if_neg c, if_neg (fun h => c h.symm), Nat.add_zero]
    rw [sm1_ext e, sm1_add, pop_all hg h9 hs j (by omega), sm1_one (a := g j) hj2.1 (fun v _ hv => if_neg hv), if_pos rfl]
theorem sm1_list {F : Nat → Nat} : ∀ n, ((List.range n).map F).sum = sm1 F n
  | 0 => rfl
  | n + 1 => by
    rw [List.range_succ, List.map_append, List.sum_append_nat, sm1_list n]
    show sm1 F n + (F n + 0) = sm1 F n + F n
    omega
theorem lab_perm (hg : gOK g f D) (h0 : 1 ≤ D) (h9 : D ≤ 9) : (g 0 :: ((List.range D).filter (bigB g f D) ++ (List.range D).filter (sinB g f D)) ++ (List.range D).filter (zerB g f D)).Perm (List.range D) := by
  have hr := hg 0 h0
  have r0 := pop_lab hg h9 hr.1
  have hn : ∀ P : Nat → Bool, ((List.range D).filter P).Nodup := fun P => List.Pairwise.filter _ List.nodup_range
  refine (List.perm_ext_iff_of_nodup ?_ List.nodup_range).mpr (fun a => ?_)
  · refine List.nodup_append.mpr ⟨List.nodup_cons.mpr ⟨fun h => ?_, List.nodup_append.mpr ⟨hn _, hn _, fun a ha b hb e => ?_⟩⟩, hn _, fun a ha b hb e => ?_⟩
    · rcases List.mem_append.mp h with h | h
      · have := (List.mem_filter.mp h).2
        simp [bigB] at this
      · have := (List.mem_filter.mp h).2
        simp [sinB] at this
    · have h1 := (List.mem_filter.mp ha).2
      have h2 := (List.mem_filter.mp hb).2
      subst e
      simp [bigB] at h1
      simp [sinB] at h2
      omega
    · have h2 := (List.mem_filter.mp hb).2
      subst e
      simp only [zerB, decide_eq_true_eq] at h2
      rcases List.mem_cons.mp ha with h | h
      · subst h
        exact (r0.mp h2) hr.2.2.1
      · rcases List.mem_append.mp h with h | h
        · have := (List.mem_filter.mp h).2
          simp [bigB] at this
          omega
        · have := (List.mem_filter.mp h).2
          simp [sinB] at this
          omega
  · rw [List.mem_append, List.mem_cons, List.mem_append, List.mem_filter, List.mem_filter, List.mem_filter, List.mem_range]
    constructor
    · rintro ((h | h | h) | h)
      · rw [h]; exact hr.1
      · exact h.1
      · exact h.1
      · exact h.1
    · intro ha
      by_cases c : a = g 0
      · exact Or.inl (Or.inl c)
      · by_cases c2 : popB g f D a = 0
        · exact Or.inr ⟨ha, by simp [zerB, c2]⟩
        · by_cases c3 : popB g f D a = 1
          · exact Or.inl (Or.inr (Or.inr ⟨ha, by simp [sinB, c, c3]⟩))
          · exact Or.inl (Or.inr (Or.inl ⟨ha, by simp [bigB, c]; omega⟩))
end
