/-! PLAN: chains of tasks (made by wip/whole/gen89d.py) -/
/-- the day of a task -/
def dkP (S : Nat → Int32) (q T : Nat) : Prop := sn S (17 + 16 * sn S (269 + 5 * q) + T % sn S 9) = sn S (269 + 5 * q + 1)
/-- no task of R must be done ahead of it -/
def hdP (S : Nat → Int32) (R q : Nat) : Prop := S (269 + 5 * q + 2) = -1 ∨ R.testBit (sn S (269 + 5 * q + 2)) = false
/-- what is asked for of a task done next, at tm, by one who is at v from h on and may do it from r on -/
def stpP (S : Nat → Int32) (k R v h r q tm : Nat) : Prop := q < sn S 5 ∧ R.testBit q = true ∧ hdP S R q ∧ Rch S k v h tm (sn S (269 + 5 * q)) ∧ r ≤ tm ∧ dkP S q tm
/-- x is when the last task of R is done, along some order -/
def CH (S : Nat → Int32) (k : Nat) : Nat → Nat → Nat → Nat → Nat → Nat → Prop
  | 0, R, _, h, _, x => R = 0 ∧ x = h
  | n + 1, R, v, h, r, x => (R = 0 ∧ x = h) ∨ ∃ q tm, stpP S k R v h r q tm ∧ CH S k n (R ^^^ 2 ^ q) (sn S (269 + 5 * q)) tm (tm + 1) x
/-- .. with this task first -/
def CHq (S : Nat → Int32) (k n R v h r q x : Nat) : Prop := ∃ tm, stpP S k R v h r q tm ∧ CH S k n (R ^^^ 2 ^ q) (sn S (269 + 5 * q)) tm (tm + 1) x
theorem CH.zero {S : Nat → Int32} {k n v h r x : Nat} : CH S k n 0 v h r x ↔ x = h := by
  cases n with
  | zero => exact ⟨fun g => g.2, fun g => ⟨rfl, g⟩⟩
  | succ n =>
    refine ⟨fun g => ?_, fun g => Or.inl ⟨rfl, g⟩⟩
    rcases g with g | ⟨q, tm, g, _⟩
    · exact g.2
    · have := g.2.1; rw [Nat.zero_testBit] at this; cases this
theorem CH.nz {S : Nat → Int32} {k n R v h r x : Nat} (hR : ¬ R = 0) : CH S k (n + 1) R v h r x ↔ ∃ q, CHq S k n R v h r q x := by
  constructor
  · intro g
    rcases g with g | ⟨q, tm, g⟩
    · exact absurd g.1 hR
    · exact ⟨q, tm, g⟩
  · intro ⟨q, tm, g⟩
    exact Or.inr ⟨q, tm, g⟩
theorem stpP.early {S : Nat → Int32} {k R v h r h' r' q tm : Nat} (g : stpP S k R v h r q tm) (hh : h' ≤ h) (hr : r' ≤ r) : stpP S k R v h' r' q tm := ⟨g.1, g.2.1, g.2.2.1, g.2.2.2.1.early hh, Nat.le_trans hr g.2.2.2.2.1, g.2.2.2.2.2⟩
theorem CH.early {S : Nat → Int32} {k n R v h r h' r' x : Nat} (g : CH S k n R v h r x) (hR : ¬ R = 0) (hh : h' ≤ h) (hr : r' ≤ r) : CH S k n R v h' r' x := by
  cases n with
  | zero => exact absurd g.1 hR
  | succ n =>
    rcases g with g | ⟨q, tm, g, g2⟩
    · exact absurd g.1 hR
    · exact Or.inr ⟨q, tm, g.early hh hr, g2⟩
/-- sooner is never worse -/
theorem CH.soon {S : Nat → Int32} {k n R v h r h' r' x : Nat} (g : CH S k n R v h r x) (hh : h' ≤ h) (hr : r' ≤ r) : ∃ x', x' ≤ x ∧ CH S k n R v h' r' x' := by
  by_cases hR : R = 0
  · subst hR
    rw [CH.zero] at g
    subst g
    exact ⟨h', hh, CH.zero.mpr rfl⟩
  · exact ⟨x, Nat.le_refl _, g.early hR hh hr⟩
theorem CH.ge {S : Nat → Int32} {k : Nat} : ∀ {n R v h r x : Nat}, CH S k n R v h r x → h ≤ x
  | 0, _, _, _, _, _, g => by rw [g.2]; exact Nat.le_refl _
  | n + 1, _, _, _, _, _, g => by
    rcases g with g | ⟨q, tm, g, g2⟩
    · rw [g.2]; exact Nat.le_refl _
    · have h1 := CH.ge g2
      have h2 := g.2.2.2.1.ge
      omega
theorem CHq.ge {S : Nat → Int32} {k n R v h r q x : Nat} (g : CHq S k n R v h r q x) : ∃ tm, stpP S k R v h r q tm ∧ tm ≤ x := by
  obtain ⟨tm, g1, g2⟩ := g
  exact ⟨tm, g1, g2.ge⟩
theorem CH.more {S : Nat → Int32} {k : Nat} : ∀ {n R v h r x : Nat}, CH S k n R v h r x → CH S k (n + 1) R v h r x
  | 0, _, _, _, _, _, g => Or.inl g
  | n + 1, _, _, _, _, _, g => by
    rcases g with g | ⟨q, tm, g, g2⟩
    · exact Or.inl g
    · exact Or.inr ⟨q, tm, g, g2.more⟩
theorem CH.mores {S : Nat → Int32} {k n R v h r x : Nat} (g : CH S k n R v h r x) : ∀ {m}, n ≤ m → CH S k m R v h r x := by
  intro m hm
  induction m with
  | zero => rw [show n = 0 by omega] at g; exact g
  | succ m ih =>
    by_cases e : n = m + 1
    · rw [← e]; exact g
    · exact (ih (by omega)).more
theorem pop_x : ∀ s, s < 256 → ∀ q, q < 8 → s.testBit q = true → popc 9 (s ^^^ 2 ^ q) + 1 = popc 9 s ∧ s ^^^ 2 ^ q < 256 := by decide +kernel
theorem CH.len {B : Nat} {S : Nat → Int32} (hI : Inv B S) {k : Nat} : ∀ {n R v h r x : Nat}, R < 256 → CH S k n R v h r x → CH S k (popc 9 R) R v h r x
  | 0, R, v, h, r, x, _, g => by obtain ⟨e, g⟩ := g; subst e; exact CH.zero.mpr g
  | n + 1, R, v, h, r, x, hR, g => by
    have b5 := hI.b5
    rcases g with g | ⟨q, tm, g, g2⟩
    · obtain ⟨e, g⟩ := g; subst e; exact CH.zero.mpr g
    · have hx := pop_x R hR q (by have := g.1; omega) g.2.1
      rw [← hx.1]
      exact Or.inr ⟨q, tm, g, CH.len hI hx.2 g2⟩
theorem Rch.trans {S : Nat → Int32} {k v0 T0 T1 v1 T v : Nat} (h : Rch S k v0 T0 T1 v1) (g : Rch S k v1 T1 T v) : Rch S k v0 T0 T v := g (Rch S k v0 T0) h (fun _ _ h => h.wait) (fun _ _ _ h hb hr ho => h.go hb hr ho)
/-- a task can be done then and there -/
def dblP (S : Nat → Int32) (R q T v : Nat) : Prop := q < sn S 5 ∧ R.testBit q = true ∧ hdP S R q ∧ sn S (269 + 5 * q) = v ∧ dkP S q T
/-- where and when one can be with which tasks left; al: which may be the first -/
def PL (S : Nat → Int32) (k O : Nat) (al : Nat → Bool) (T v R : Nat) : Prop := ∀ Q : Nat → Nat → Nat → Prop, Q (stN S k) (hmN S k) O →
  (∀ T v R, Q T v R → Q (T + 1) v R) →
  (∀ T v R r, Q T v R → bd S k v T = false → r < sn S 3 → otP S r v → Q (T + sn S (177 + 3 * r + 2)) (otN S r v) R) →
  (∀ T v R q, Q T v R → dblP S R q T v → (R = O → al q = true) → ¬ R ^^^ 2 ^ q = 0 → Q (T + 1) v (R ^^^ 2 ^ q)) →
  (∀ T v R q r, Q T v R → dblP S R q T v → (R = O → al q = true) → ¬ R ^^^ 2 ^ q = 0 → bd S k v T = false → r < sn S 3 → otP S r v → Q (T + sn S (177 + 3 * r + 2)) (otN S r v) (R ^^^ 2 ^ q)) → Q T v R
theorem PL.base {S : Nat → Int32} {k O : Nat} {al : Nat → Bool} : PL S k O al (stN S k) (hmN S k) O := fun _ h _ _ _ _ => h
theorem PL.wait {S : Nat → Int32} {k O T v R : Nat} {al : Nat → Bool} (h : PL S k O al T v R) : PL S k O al (T + 1) v R := fun Q a b c d e => b _ _ _ (h Q a b c d e)
theorem PL.go {S : Nat → Int32} {k O T v R r : Nat} {al : Nat → Bool} (h : PL S k O al T v R) (hb : bd S k v T = false) (hr : r < sn S 3) (ho : otP S r v) : PL S k O al (T + sn S (177 + 3 * r + 2)) (otN S r v) R := fun Q a b c d e => c _ _ _ _ (h Q a b c d e) hb hr ho
theorem PL.dow {S : Nat → Int32} {k O T v R q : Nat} {al : Nat → Bool} (h : PL S k O al T v R) (hd : dblP S R q T v) (ha : R = O → al q = true) (hz : ¬ R ^^^ 2 ^ q = 0) : PL S k O al (T + 1) v (R ^^^ 2 ^ q) := fun Q a b c d e => d _ _ _ _ (h Q a b c d e) hd ha hz
theorem PL.dog {S : Nat → Int32} {k O T v R q r : Nat} {al : Nat → Bool} (h : PL S k O al T v R) (hd : dblP S R q T v) (ha : R = O → al q = true) (hz : ¬ R ^^^ 2 ^ q = 0) (hb : bd S k v T = false) (hr : r < sn S 3) (ho : otP S r v) : PL S k O al (T + sn S (177 + 3 * r + 2)) (otN S r v) (R ^^^ 2 ^ q) := fun Q a b c d e => e _ _ _ _ _ (h Q a b c d e) hd ha hz hb hr ho
/-- the last is done at T -/
def FIN (S : Nat → Int32) (k O : Nat) (al : Nat → Bool) (T : Nat) : Prop := ∃ v R q, PL S k O al T v R ∧ dblP S R q T v ∧ (R = O → al q = true) ∧ R ^^^ 2 ^ q = 0
theorem dblP.stp {S : Nat → Int32} {k R q T v h r : Nat} (h1 : dblP S R q T v) (hR : Rch S k v h T v) (hr : r ≤ T) : stpP S k R v h r q T := ⟨h1.1, h1.2.1, h1.2.2.1, by rw [h1.2.2.2.1]; exact hR, hr, h1.2.2.2.2⟩
theorem CH.road {S : Nat → Int32} {k n R v T r' x j : Nat} (hR : ¬ R = 0) (hb : bd S k v T = false) (hr : j < sn S 3) (ho : otP S j v) (hle : r' ≤ T + sn S (177 + 3 * j + 2)) (g : CH S k n R (otN S j v) (T + sn S (177 + 3 * j + 2)) (T + sn S (177 + 3 * j + 2)) x) : CH S k n R v T r' x := by
  have hgo : Rch S k v T (T + sn S (177 + 3 * j + 2)) (otN S j v) := Rch.base.go hb hr ho
  cases n with
  | zero => exact absurd g.1 hR
  | succ n =>
    rcases g with g | ⟨q, tm, g1, g2⟩
    · exact absurd g.1 hR
    · exact Or.inr ⟨q, tm, ⟨g1.1, g1.2.1, g1.2.2.1, hgo.trans g1.2.2.2.1, by have := g1.2.2.2.2.1; omega, g1.2.2.2.2.2⟩, g2⟩
/-- a path gives a chain -/
theorem FIN.chain {B : Nat} {S : Nat → Int32} (hI : Inv B S) {k O T : Nat} {al : Nat → Bool} (hO : ¬ O = 0) (h : FIN S k O al T) : ∃ n q, al q = true ∧ CHq S k n O (hmN S k) (stN S k) (stN S k) q T := by
  obtain ⟨v, R, q, hP, hd, ha, hz⟩ := h
  -- what may follow at a state follows from the beginning
  let G : Nat → Nat → Nat → Prop := fun T v R => (∀ j, R.testBit j = true → O.testBit j = true) ∧ ((R = O ∧ Rch S k (hmN S k) (stN S k) T v) ∨ (¬ R = 0 ∧ ¬ R = O ∧ ∀ n x, CH S k n R v T T x → ∃ m q, al q = true ∧ CHq S k m O (hmN S k) (stN S k) (stN S k) q x))
  have key : ∀ T v R q, G T v R → dblP S R q T v → (R = O → al q = true) → ∀ n x, CH S k n (R ^^^ 2 ^ q) v T (T + 1) x → ∃ m q, al q = true ∧ CHq S k m O (hmN S k) (stN S k) (stN S k) q x := by
    intro T v R q hG hd ha n x hc
    rcases hG.2 with ⟨e, hR⟩ | ⟨h1, h2, h3⟩
    · refine ⟨n, q, ha e, T, ?_, ?_⟩
      · rw [← e]
        exact ⟨hd.1, hd.2.1, hd.2.2.1, by rw [hd.2.2.2.1]; exact hR, hR.ge, hd.2.2.2.2⟩
      · rw [← e, hd.2.2.2.1]; exact hc
    · refine h3 (n + 1) x (Or.inr ⟨q, T, hd.stp Rch.base (Nat.le_refl _), ?_⟩)
      rw [hd.2.2.2.1]
      exact hc
  have sub : ∀ R q j, R.testBit q = true → (R ^^^ 2 ^ q).testBit j = true → R.testBit j = true := fun R q j h g => by
    by_cases e : q = j
    · rw [← e]; exact h
    · rw [Nat.testBit_xor, Nat.testBit_two_pow_of_ne e] at g; simpa using g
  have nO : ∀ T v R q, G T v R → R.testBit q = true → ¬ R ^^^ 2 ^ q = O := fun T v R q g h e => by
    have h1 := g.1 q h
    rw [← e, Nat.testBit_xor, h, Nat.testBit_two_pow_self] at h1
    exact absurd h1 (by decide)
  have hG : G T v R := by
    refine hP G ⟨fun _ h => h, Or.inl ⟨rfl, Rch.base⟩⟩ (fun T v R g => ⟨g.1, ?_⟩) (fun T v R r g hb hr ho => ⟨g.1, ?_⟩) (fun T v R q g hd ha hz => ⟨fun j hj => g.1 j (sub R q j hd.2.1 hj), Or.inr ⟨hz, nO T v R q g hd.2.1, fun n x hc => ?_⟩⟩) (fun T v R q r g hd ha hz hb hr ho => ⟨fun j hj => g.1 j (sub R q j hd.2.1 hj), Or.inr ⟨hz, nO T v R q g hd.2.1, fun n x hc => ?_⟩⟩)
    · rcases g.2 with ⟨e, hR⟩ | ⟨h1, h2, h3⟩
      · exact Or.inl ⟨e, hR.wait⟩
      · exact Or.inr ⟨h1, h2, fun n x hc => h3 n x (hc.early h1 (Nat.le_succ _) (Nat.le_succ _))⟩
    · rcases g.2 with ⟨e, hR⟩ | ⟨h1, h2, h3⟩
      · exact Or.inl ⟨e, hR.go hb hr ho⟩
      · refine Or.inr ⟨h1, h2, fun n x hc => h3 n x ?_⟩
        exact CH.road h1 hb hr ho (Nat.le_add_right _ _) hc
    · exact key T v R q g hd ha n x (hc.early hz (Nat.le_succ _) (Nat.le_refl _))
    · have h3 := (hI.2.2.2.2.1 _ hr).2.2.2.1
      exact key T v R q g hd ha n x (CH.road hz hb hr ho (by omega) hc)
  exact key T v R q hG hd ha 0 T (by rw [hz]; exact ⟨rfl, rfl⟩)
/-- with q done, all that is within reach -/
theorem PL.after {B : Nat} {S : Nat → Int32} (hI : Inv B S) {k O T v R q : Nat} {al : Nat → Bool} (h : PL S k O al T v R) (hd : dblP S R q T v) (ha : R = O → al q = true) (hz : ¬ R ^^^ 2 ^ q = 0) {T' v' : Nat} (g : Rch S k v T T' v') (hT : T + 1 ≤ T') : PL S k O al T' v' (R ^^^ 2 ^ q) := by
  have := g (fun T' v' => (T' = T ∧ v' = v) ∨ PL S k O al T' v' (R ^^^ 2 ^ q)) (Or.inl ⟨rfl, rfl⟩) (fun T' v' g => ?_) (fun T' v' r g hb hr ho => ?_)
  · rcases this with ⟨e, _⟩ | g
    · omega
    · exact g
  · rcases g with ⟨e1, e2⟩ | g
    · subst e1 e2; exact Or.inr (h.dow hd ha hz)
    · exact Or.inr g.wait
  · rcases g with ⟨e1, e2⟩ | g
    · subst e1 e2; exact Or.inr (h.dog hd ha hz hb hr ho)
    · exact Or.inr (g.go hb hr ho)
theorem xsub (R q j : Nat) (h : R.testBit q = true) (g : (R ^^^ 2 ^ q).testBit j = true) : R.testBit j = true := by
  by_cases e : q = j
  · rw [← e]; exact h
  · rw [Nat.testBit_xor, Nat.testBit_two_pow_of_ne e] at g; simpa using g
theorem xne {R O q : Nat} (h1 : O.testBit q = true) (h : R.testBit q = true) : ¬ R ^^^ 2 ^ q = O := fun e => by
  rw [← e, Nat.testBit_xor, h, Nat.testBit_two_pow_self] at h1
  exact absurd h1 (by decide)
/-- a chain gives a path -/
theorem CH.fin {B : Nat} {S : Nat → Int32} (hI : Inv B S) {k O : Nat} {al : Nat → Bool} : ∀ n {R v h r x : Nat}, (∀ T' v', Rch S k v h T' v' → r ≤ T' → PL S k O al T' v' R) → ¬ R = 0 → (∀ j, R.testBit j = true → O.testBit j = true) → ∀ q, (R = O → al q = true) → CHq S k n R v h r q x → FIN S k O al x
  | n, R, v, h, r, x, hall, hR, hs, q, ha, ⟨tm, g1, g2⟩ => by
    have hP := hall tm _ g1.2.2.2.1 g1.2.2.2.2.1
    have hd : dblP S R q tm (sn S (269 + 5 * q)) := ⟨g1.1, g1.2.1, g1.2.2.1, rfl, g1.2.2.2.2.2⟩
    by_cases hz : R ^^^ 2 ^ q = 0
    · rw [hz, CH.zero] at g2
      subst g2
      exact ⟨_, R, q, hP, hd, ha, hz⟩
    · cases n with
      | zero => exact absurd g2.1 hz
      | succ n =>
        obtain ⟨q', g2⟩ := (CH.nz hz).mp g2
        exact CH.fin hI n (fun T' v' g hT => hP.after hI hd ha hz g hT) hz (fun j hj => hs j (xsub R q j g1.2.1 hj)) q' (fun e => absurd e (xne (hs q g1.2.1) g1.2.1)) g2
theorem Rch.pl {S : Nat → Int32} {k O T v : Nat} {al : Nat → Bool} (g : Rch S k (hmN S k) (stN S k) T v) : PL S k O al T v O := g (fun T v => PL S k O al T v O) PL.base (fun _ _ h => h.wait) (fun _ _ _ h hb hr ho => h.go hb hr ho)
theorem FIN.iff {B : Nat} {S : Nat → Int32} (hI : Inv B S) {k O T : Nat} {al : Nat → Bool} (hO : ¬ O = 0) (h8 : O < 256) (h5 : popc 9 O ≤ 5) : FIN S k O al T ↔ ∃ q, al q = true ∧ CHq S k 4 O (hmN S k) (stN S k) (stN S k) q T := by
  have b5 := hI.b5
  constructor
  · intro h
    obtain ⟨n, q, ha, tm, g1, g2⟩ := h.chain hI hO
    have hx := pop_x O h8 q (by have := g1.1; omega) g1.2.1
    exact ⟨q, ha, tm, g1, (g2.len hI hx.2).mores (by omega)⟩
  · intro ⟨q, ha, g⟩
    exact CH.fin hI 4 (fun T' v' g _ => g.pl) hO (fun _ h => h) q (fun _ => ha) g
