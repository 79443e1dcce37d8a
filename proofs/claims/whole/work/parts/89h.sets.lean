/-! PLAN: sets of planned tasks, as the reference numbers them (made by wip/whole/gen89h.py) -/
/-- pk numbers the tasks of O -/
def PK (S : Nat → Int32) (O np : Nat) (pk : Nat → Nat) : Prop := (∀ i, i < np → pk i < sn S 5 ∧ O.testBit (pk i) = true) ∧ (∀ i j, i < np → j < np → pk i = pk j → i = j) ∧ ∀ q, O.testBit q = true → ∃ i, i < np ∧ pk i = q
def pkM (O : Nat) (pk : Nat → Nat) (s : Nat) : Nat → Nat
  | 0 => O
  | n + 1 => if s.testBit n = true then pkM O pk s n ^^^ 2 ^ pk n else pkM O pk s n
theorem pkM_bit {S : Nat → Int32} {O np : Nat} {pk : Nat → Nat} (h : PK S O np pk) {s : Nat} : ∀ n, n ≤ np → ∀ q, (pkM O pk s n).testBit q = true ↔ O.testBit q = true ∧ ∀ i, i < n → pk i = q → s.testBit i = false
  | 0, _, q => ⟨fun g => ⟨g, fun i hi => absurd hi (Nat.not_lt_zero _)⟩, fun g => g.1⟩
  | n + 1, hn, q => by
    have ih := pkM_bit h (s := s) n (by omega)
    have hp := h.1 n (by omega)
    by_cases c : s.testBit n = true
    · rw [show pkM O pk s (n + 1) = pkM O pk s n ^^^ 2 ^ pk n from if_pos c, Nat.testBit_xor]
      by_cases e : pk n = q
      · subst e
        rw [(ih (pk n)).mpr ⟨hp.2, fun i hi e => absurd (h.2.1 i n (by omega) (by omega) e) (by omega)⟩, Nat.testBit_two_pow_self]
        refine ⟨fun g => absurd g (by decide), fun g => ?_⟩
        rw [g.2 n (Nat.lt_succ_self _) rfl] at c
        cases c
      · rw [Nat.testBit_two_pow_of_ne e, Bool.xor_false, ih q]
        refine ⟨fun g => ⟨g.1, fun i hi e2 => ?_⟩, fun g => ⟨g.1, fun i hi => g.2 i (by omega)⟩⟩
        by_cases e3 : i = n
        · subst e3; exact absurd e2 e
        · exact g.2 i (by omega) e2
    · rw [show pkM O pk s (n + 1) = pkM O pk s n from if_neg c, ih q]
      refine ⟨fun g => ⟨g.1, fun i hi e2 => ?_⟩, fun g => ⟨g.1, fun i hi => g.2 i (by omega)⟩⟩
      by_cases e3 : i = n
      · subst e3; simpa using c
      · exact g.2 i (by omega) e2
section
variable {S : Nat → Int32} {O np : Nat} {pk : Nat → Nat} {s i : Nat}
theorem pkM_pk (h : PK S O np pk) (hi : i < np) : (pkM O pk s np).testBit (pk i) = true ↔ s.testBit i = false := by
  rw [pkM_bit h np (Nat.le_refl _)]
  refine ⟨fun g => g.2 i hi rfl, fun g => ⟨(h.1 i hi).2, fun j hj e => ?_⟩⟩
  rw [h.2.1 j i hj hi e]; exact g
theorem pkM_or (h : PK S O np pk) (hi : i < np) (hb : s.testBit i = false) : pkM O pk (s ||| 2 ^ i) np = pkM O pk s np ^^^ 2 ^ pk i := by
  refine Nat.eq_of_testBit_eq (fun q => ?_)
  rw [Bool.eq_iff_iff, pkM_bit h np (Nat.le_refl _), Nat.testBit_xor]
  by_cases e : pk i = q
  · subst e
    rw [(pkM_pk h hi).mpr hb, Nat.testBit_two_pow_self]
    refine ⟨fun g => ?_, fun g => absurd g (by decide)⟩
    have := g.2 i hi rfl
    rw [tb_or, decide_eq_true rfl, Bool.or_true] at this
    cases this
  · rw [Nat.testBit_two_pow_of_ne e, Bool.xor_false, pkM_bit h np (Nat.le_refl _)]
    have hx : ∀ j, pk j = q → (s ||| 2 ^ i).testBit j = s.testBit j := fun j e2 => by
      rw [tb_or, decide_eq_false (fun e3 => e (by rw [e3]; exact e2)), Bool.or_false]
    exact ⟨fun g => ⟨g.1, fun j hj e2 => by rw [← hx j e2]; exact g.2 j hj e2⟩, fun g => ⟨g.1, fun j hj e2 => by rw [hx j e2]; exact g.2 j hj e2⟩⟩
theorem pkM_none (h : PK S O np pk) (hs : s < 2 ^ np) : pkM O pk s np = 0 ↔ s = 2 ^ np - 1 := by
  constructor
  · intro g
    refine Nat.eq_of_testBit_eq (fun i => ?_)
    rw [Nat.testBit_two_pow_sub_one]
    by_cases c : i < np
    · rw [decide_eq_true c]
      by_cases d : s.testBit i = true
      · exact d
      · have := (pkM_pk (s := s) h c).mpr (by simpa using d)
        rw [g, Nat.zero_testBit] at this
        cases this
    · rw [decide_eq_false c]
      exact Nat.testBit_lt_two_pow (Nat.lt_of_lt_of_le hs (Nat.pow_le_pow_right (by decide) (by omega)))
  · intro g
    refine Nat.eq_of_testBit_eq (fun q => ?_)
    rw [Nat.zero_testBit]
    by_cases d : (pkM O pk s np).testBit q = true
    · have hq := (pkM_bit h np (Nat.le_refl _) q).mp d
      obtain ⟨i, hi, e⟩ := h.2.2 q hq.1
      have := hq.2 i hi e
      rw [g, Nat.testBit_two_pow_sub_one, decide_eq_true hi] at this
      cases this
    · simpa using d
theorem pkM_all (h : PK S O np pk) (hs : s < 2 ^ np) : pkM O pk s np = O ↔ s = 0 := by
  constructor
  · intro g
    refine Nat.eq_of_testBit_eq (fun i => ?_)
    rw [Nat.zero_testBit]
    by_cases c : i < np
    · exact (pkM_pk (s := s) h c).mp (by rw [g]; exact (h.1 i c).2)
    · exact Nat.testBit_lt_two_pow (Nat.lt_of_lt_of_le hs (Nat.pow_le_pow_right (by decide) (by omega)))
  · intro g
    subst g
    refine Nat.eq_of_testBit_eq (fun q => ?_)
    rw [Bool.eq_iff_iff, pkM_bit h np (Nat.le_refl _)]
    exact ⟨fun g => g.1, fun g => ⟨g, fun i _ _ => Nat.zero_testBit i⟩⟩
end
/-- a planned task can be done then and there, when s is done -/
def RD (S : Nat → Int32) (np : Nat) (pk : Nat → Nat) (s i T v : Nat) : Prop := s.testBit i = false ∧ sn S (269 + 5 * pk i) = v ∧ dkP S (pk i) T ∧ (S (269 + 5 * pk i + 2) = -1 ∨ ¬ S (269 + 5 * sn S (269 + 5 * pk i + 2) + 3) = -1 ∨ ∃ j, j < np ∧ pk j = sn S (269 + 5 * pk i + 2) ∧ s.testBit j = true)
/-- .. may be done, and isn't the last -/
def RN (S : Nat → Int32) (np : Nat) (pk : Nat → Nat) (al : Nat → Bool) (s i T v : Nat) : Prop := i < np ∧ RD S np pk s i T v ∧ (s = 0 → al (pk i) = true) ∧ ¬ s ||| 2 ^ i = 2 ^ np - 1
/-- where and when one can be, and with what done -/
def PR (S : Nat → Int32) (k np : Nat) (pk : Nat → Nat) (al : Nat → Bool) (T v s : Nat) : Prop := ∀ Q : Nat → Nat → Nat → Prop, Q (stN S k) (hmN S k) 0 →
  (∀ T v s, Q T v s → Q (T + 1) v s) →
  (∀ T v s r, Q T v s → bd S k v T = false → r < sn S 3 → otP S r v → Q (T + sn S (177 + 3 * r + 2)) (otN S r v) s) →
  (∀ T v s i, Q T v s → RN S np pk al s i T v → Q (T + 1) v (s ||| 2 ^ i)) →
  (∀ T v s i r, Q T v s → RN S np pk al s i T v → bd S k v T = false → r < sn S 3 → otP S r v → Q (T + sn S (177 + 3 * r + 2)) (otN S r v) (s ||| 2 ^ i)) → Q T v s
section
variable {S : Nat → Int32} {k np T v s i r : Nat} {pk : Nat → Nat} {al : Nat → Bool}
theorem PR.base : PR S k np pk al (stN S k) (hmN S k) 0 := fun _ h _ _ _ _ => h
theorem PR.wait (h : PR S k np pk al T v s) : PR S k np pk al (T + 1) v s := fun Q a b c d e => b _ _ _ (h Q a b c d e)
theorem PR.go (h : PR S k np pk al T v s) (hb : bd S k v T = false) (hr : r < sn S 3) (ho : otP S r v) : PR S k np pk al (T + sn S (177 + 3 * r + 2)) (otN S r v) s := fun Q a b c d e => c _ _ _ _ (h Q a b c d e) hb hr ho
theorem PR.dow (h : PR S k np pk al T v s) (hd : RN S np pk al s i T v) : PR S k np pk al (T + 1) v (s ||| 2 ^ i) := fun Q a b c d e => d _ _ _ _ (h Q a b c d e) hd
theorem PR.dog (h : PR S k np pk al T v s) (hd : RN S np pk al s i T v) (hb : bd S k v T = false) (hr : r < sn S 3) (ho : otP S r v) : PR S k np pk al (T + sn S (177 + 3 * r + 2)) (otN S r v) (s ||| 2 ^ i) := fun Q a b c d e => e _ _ _ _ _ (h Q a b c d e) hd hb hr ho
/-- the last is done -/
def PFR (S : Nat → Int32) (k np : Nat) (pk : Nat → Nat) (al : Nat → Bool) (T : Nat) : Prop := ∃ v s i, PR S k np pk al T v s ∧ i < np ∧ RD S np pk s i T v ∧ (s = 0 → al (pk i) = true) ∧ s ||| 2 ^ i = 2 ^ np - 1
end
/-- open tasks are asked for and not done -/
def OK (S : Nat → Int32) (O : Nat) : Prop := ∀ q, O.testBit q = true → S (269 + 5 * q + 3) = -1
theorem RD.dbl {S : Nat → Int32} {O np s i T v : Nat} {pk : Nat → Nat} (h : PK S O np pk) (hO : OK S O) (ha : aaP S O (sn S 5)) (hi : i < np) : RD S np pk s i T v ↔ dblP S (pkM O pk s np) (pk i) T v := by
  have hp := h.1 i hi
  have hm := pkM_bit (s := s) h np (Nat.le_refl _)
  constructor
  · intro ⟨h1, h2, h3, h4⟩
    refine ⟨hp.1, (pkM_pk h hi).mpr h1, ?_, h2, h3⟩
    rcases h4 with h4 | h4 | ⟨j, h4, h5, h6⟩
    · exact Or.inl h4
    · refine Or.inr ?_
      by_cases c : (pkM O pk s np).testBit (sn S (269 + 5 * pk i + 2)) = true
      · exact absurd (hO _ ((hm _).mp c).1) h4
      · simpa using c
    · refine Or.inr ?_
      by_cases c : (pkM O pk s np).testBit (sn S (269 + 5 * pk i + 2)) = true
      · rw [((hm _).mp c).2 j h4 h5] at h6; cases h6
      · simpa using c
  · intro ⟨_, h1, h2, h3, h4⟩
    refine ⟨(pkM_pk h hi).mp h1, h3, h4, ?_⟩
    rcases h2 with h2 | h2
    · exact Or.inl h2
    · rcases ha (pk i) hp.1 hp.2 with g | g | g
      · exact Or.inl g
      · exact Or.inr (Or.inl g)
      · obtain ⟨j, hj, e⟩ := h.2.2 _ g
        refine Or.inr (Or.inr ⟨j, hj, e, ?_⟩)
        by_cases c : s.testBit j = true
        · exact c
        · have := (pkM_pk (s := s) h hj).mpr (by simpa using c)
          rw [e, h2] at this; cases this
theorem or_lt2 {s i np : Nat} (hs : s < 2 ^ np) (hi : i < np) : s ||| 2 ^ i < 2 ^ np := Nat.or_lt_two_pow hs (Nat.pow_lt_pow_right (by decide) hi)
theorem PR.pl {S : Nat → Int32} {k O np T v s : Nat} {pk : Nat → Nat} {al : Nat → Bool} (h : PK S O np pk) (hO : OK S O) (ha : aaP S O (sn S 5)) (g : PR S k np pk al T v s) : s < 2 ^ np ∧ PL S k O al T v (pkM O pk s np) := by
  have hn : ∀ T v s i, s < 2 ^ np → RN S np pk al s i T v → s ||| 2 ^ i < 2 ^ np ∧ pkM O pk (s ||| 2 ^ i) np = pkM O pk s np ^^^ 2 ^ pk i ∧ dblP S (pkM O pk s np) (pk i) T v ∧ (pkM O pk s np = O → al (pk i) = true) ∧ ¬ pkM O pk s np ^^^ 2 ^ pk i = 0 := fun T v s i hs hd => by
    have h1 := or_lt2 hs hd.1
    have h2 := pkM_or h hd.1 hd.2.1.1
    refine ⟨h1, h2, (RD.dbl h hO ha hd.1).mp hd.2.1, fun e => hd.2.2.1 ((pkM_all h hs).mp e), fun e => hd.2.2.2 ?_⟩
    rw [← h2] at e
    exact (pkM_none h h1).mp e
  refine g (fun T v s => s < 2 ^ np ∧ PL S k O al T v (pkM O pk s np)) ⟨Nat.two_pow_pos np, ?_⟩ (fun T v s g => ⟨g.1, g.2.wait⟩) (fun T v s r g hb hr ho => ⟨g.1, g.2.go hb hr ho⟩) (fun T v s i g hd => ?_) (fun T v s i r g hd hb hr ho => ?_)
  · rw [(pkM_all h (Nat.two_pow_pos np)).mpr rfl]; exact PL.base
  · obtain ⟨h1, h2, h3, h4, h5⟩ := hn T v s i g.1 hd
    refine ⟨h1, ?_⟩
    rw [h2]
    exact g.2.dow h3 h4 h5
  · obtain ⟨h1, h2, h3, h4, h5⟩ := hn T v s i g.1 hd
    refine ⟨h1, ?_⟩
    rw [h2]
    exact g.2.dog h3 h4 h5 hb hr ho
theorem PL.pr {S : Nat → Int32} {k O np T v R : Nat} {pk : Nat → Nat} {al : Nat → Bool} (h : PK S O np pk) (hO : OK S O) (ha : aaP S O (sn S 5)) (g : PL S k O al T v R) : ∃ s, s < 2 ^ np ∧ pkM O pk s np = R ∧ PR S k np pk al T v s := by
  have hn : ∀ T v s R q, s < 2 ^ np → pkM O pk s np = R → dblP S R q T v → (R = O → al q = true) → ¬ R ^^^ 2 ^ q = 0 → ∃ i, RN S np pk al s i T v ∧ s ||| 2 ^ i < 2 ^ np ∧ pkM O pk (s ||| 2 ^ i) np = R ^^^ 2 ^ q := fun T v s R q hs e hd h1 h2 => by
    subst e
    obtain ⟨i, hi, e⟩ := h.2.2 q ((pkM_bit h np (Nat.le_refl _) q).mp hd.2.1).1
    subst e
    have hr := (RD.dbl h hO ha hi).mpr hd
    have h3 := or_lt2 hs hi
    have h4 := pkM_or h hi hr.1
    refine ⟨i, ⟨hi, hr, fun e => h1 ((pkM_all h hs).mpr e), fun e => h2 ?_⟩, h3, h4⟩
    rw [← h4]
    exact (pkM_none h h3).mpr e
  refine g (fun T v R => ∃ s, s < 2 ^ np ∧ pkM O pk s np = R ∧ PR S k np pk al T v s) ⟨0, Nat.two_pow_pos np, (pkM_all h (Nat.two_pow_pos np)).mpr rfl, PR.base⟩ (fun T v R ⟨s, a, b, c⟩ => ⟨s, a, b, c.wait⟩) (fun T v R r ⟨s, a, b, c⟩ hb hr ho => ⟨s, a, b, c.go hb hr ho⟩) (fun T v R q ⟨s, a, b, c⟩ hd h1 h2 => ?_) (fun T v R q r ⟨s, a, b, c⟩ hd h1 h2 hb hr ho => ?_)
  · obtain ⟨i, g1, g2, g3⟩ := hn T v s R q a b hd h1 h2
    exact ⟨_, g2, g3, c.dow g1⟩
  · obtain ⟨i, g1, g2, g3⟩ := hn T v s R q a b hd h1 h2
    exact ⟨_, g2, g3, c.dog g1 hb hr ho⟩
theorem PFR.fin {S : Nat → Int32} {k O np T : Nat} {pk : Nat → Nat} {al : Nat → Bool} (h : PK S O np pk) (hO : OK S O) (ha : aaP S O (sn S 5)) : PFR S k np pk al T ↔ FIN S k O al T := by
  constructor
  · intro ⟨v, s, i, g1, g2, g3, g4, g5⟩
    obtain ⟨h1, h2⟩ := g1.pl h hO ha
    refine ⟨v, _, pk i, h2, (RD.dbl h hO ha g2).mp g3, fun e => g4 ((pkM_all h h1).mp e), ?_⟩
    rw [← pkM_or h g2 g3.1]
    exact (pkM_none h (or_lt2 h1 g2)).mpr g5
  · intro ⟨v, R, q, g1, g2, g3, g4⟩
    obtain ⟨s, h1, h2, h3⟩ := g1.pr h hO ha
    subst h2
    obtain ⟨i, hi, e⟩ := h.2.2 q ((pkM_bit h np (Nat.le_refl _) q).mp g2.2.1).1
    subst e
    have hr := (RD.dbl h hO ha hi).mpr g2
    refine ⟨v, s, i, h3, hi, hr, fun e => g3 ((pkM_all h h1).mpr e), (pkM_none h (or_lt2 h1 hi)).mp ?_⟩
    rw [pkM_or h hi hr.1]
    exact g4
/-- what waits for a task that isn't asked for is never done -/
theorem PFR.no {S : Nat → Int32} {k O np T : Nat} {pk : Nat → Nat} {al : Nat → Bool} (h : PK S O np pk) (ha : ¬ aaP S O (sn S 5)) : ¬ PFR S k np pk al T := by
  intro ⟨v, s, i, g1, g2, g3, g4, g5⟩
  refine ha (fun j hj hb => Classical.byContradiction (fun hn => ?_))
  obtain ⟨i0, hi0, e⟩ := h.2.2 j hb
  subst e
  have bad : ∀ s T v, ¬ RD S np pk s i0 T v := fun s T v g => by
    rcases g.2.2.2 with g | g | ⟨j, g, g', _⟩
    · exact hn (Or.inl g)
    · exact hn (Or.inr (Or.inl g))
    · exact hn (Or.inr (Or.inr (by rw [← g']; exact (h.1 j g).2)))
  have keep : ∀ s i T v, s.testBit i0 = false → RD S np pk s i T v → (s ||| 2 ^ i).testBit i0 = false := fun s i T v hs g => by
    rw [tb_or, hs, Bool.false_or]
    exact decide_eq_false (fun e => bad s T v (by rw [← e]; exact g))
  have h0 := g1 (fun T v s => s.testBit i0 = false) (Nat.zero_testBit _) (fun T v s g => g) (fun T v s r g _ _ _ => g) (fun T v s i g hd => keep s i T v g hd.2.1) (fun T v s i r g hd _ _ _ => keep s i T v g hd.2.1)
  have h1 := keep s i T v h0 g3
  rw [g5, Nat.testBit_two_pow_sub_one, decide_eq_true hi0] at h1
  cases h1
