/-! THE POOL IN THE HEAP: each cell of the machine's memory is a cell of the heap -/
abbrev am_CS : Type := ClassId × ClassId × ClassId × ClassId × ClassId × ClassId
def am_tys (cs : am_CS) : List (ClassId × FieldType) := [(cs.1, .int), (cs.2.1, .byte), (cs.2.2.1, .boolean), (cs.2.2.2.1, .long), (cs.2.2.2.2.1, .array .int), (cs.2.2.2.2.2, .object "DayTables$Life")]
def am_fv (b : Bool) (p : Option Nat) (x : Int32) : Value := match b with
  | true => va_rf p
  | false => .int x
def am_fs : List Bool → Nat → (Nat → Option Nat) → (Nat → Int32) → List Value
  | [], _, _, _ => []
  | b :: t, k, p, g => am_fv b (p k) (g k) :: am_fs t (k + 1) p g
theorem am_fs_len : ∀ (t : List Bool) (k : Nat) (p : Nat → Option Nat) (g : Nat → Int32), (am_fs t k p g).length = t.length
  | [], _, _, _ => rfl
  | _ :: t, k, p, g => by simp [am_fs, am_fs_len t (k + 1) p g]
theorem am_fs_get : ∀ (t : List Bool) (k j : Nat) (p : Nat → Option Nat) (g : Nat → Int32), (am_fs t k p g)[j]? = (t[j]?).map (fun b => am_fv b (p (k + j)) (g (k + j)))
  | [], _, _, _, _ => by simp [am_fs]
  | b :: t, k, 0, p, g => by simp [am_fs]
  | b :: t, k, j + 1, p, g => by
    have h := am_fs_get t (k + 1) j p g
    simp only [am_fs, List.getElem?_cons_succ]
    rw [h, show k + 1 + j = k + (j + 1) by omega]
theorem am_fs_congr : ∀ (t : List Bool) (k : Nat) (p : Nat → Option Nat) (g g' : Nat → Int32), (∀ i, k ≤ i → g i = g' i) → am_fs t k p g = am_fs t k p g'
  | [], _, _, _, _, _ => rfl
  | b :: t, k, p, g, g', h => by
    simp only [am_fs]
    rw [h k (Nat.le_refl k), am_fs_congr t (k + 1) p g g' (fun i hi => h i (by omega))]
theorem am_fs_set : ∀ (t : List Bool) (k j : Nat) (p : Nat → Option Nat) (g : Nat → Int32) (x : Int32), t[j]? = some false → (am_fs t k p g).set j (.int x) = am_fs t k p (upd g (k + j) x)
  | [], _, _, _, _, _, h => by simp at h
  | b :: t, k, 0, p, g, x, h => by
    have hb : b = false := by simpa using h
    subst hb
    simp only [am_fs, List.set_cons_zero, Nat.add_zero]
    rw [am_fs_congr t (k + 1) p (upd g k x) g (fun i hi => by simp [upd, show ¬ i = k by omega])]
    simp [am_fv, upd]
  | b :: t, k, j + 1, p, g, x, h => by
    have h' : t[j]? = some false := by simpa using h
    simp only [am_fs, List.set_cons_succ]
    rw [am_fs_set t (k + 1) j p g x h', show k + 1 + j = k + (j + 1) by omega]
    simp [upd, show ¬ k = k + (j + 1) by omega]
def am_cell (cs : am_CS) (h : am_Sh) (g : Nat → Int32) : va_E := match h with
  | (0, c, p) => .inr (c, am_fs (am_ft c) 0 p g)
  | (1, n, _) => .inl (cs.1, n, .inl g)
  | (2, n, _) => .inl (cs.2.1, n, .inl g)
  | (3, n, _) => .inl (cs.2.2.1, n, .inl g)
  | (4, n, _) => .inl (cs.2.2.2.1, n, .inr (.inl (fun i => (g i).toInt64)))
  | (5, n, p) => .inl (cs.2.2.2.2.1, n, .inr (.inr (.inr (.inr p))))
  | (_, n, p) => .inl (cs.2.2.2.2.2, n, .inr (.inr (.inr (.inr p))))
def am_W (cs : am_CS) (M : am_M) : va_W := va_pl M.1.2.1 (fun a => am_cell cs (M.1.2.2 a) (M.2 a))
/-- since the method began (s): the pool in the heap, apart, nothing else changed -/
def am_Wd (D : va_G) (cs : am_CS) (A : Nat → Prop) (s : State) (M : am_M) (H : Heap) (locs : List Loc) : Prop :=
  va_P D am_cl (am_W cs M) H ∧ va_D A (am_W cs M) ∧ va_S A s.heap H locs ∧ ∀ n, M.1.1 = some n → H.size = n
theorem am_sh {E : am_E} {a kd n : Nat} (h : am_A E a kd n) : E.2.2 a = (kd, n, (E.2.2 a).2.2) := by
  obtain ⟨-, h1, h2⟩ := h
  rw [← h1, ← h2]
theorem am_at {cs : am_CS} {M : am_M} {a kd n : Nat} (h : am_A M.1 a kd n) : ∃ k : Nat, (am_W cs M)[k]? = some (a, am_cell cs (kd, n, (M.1.2.2 a).2.2) (M.2 a)) := by
  obtain ⟨k, hk⟩ := va_pl_get (X := []) (f := fun a => am_cell cs (M.1.2.2 a) (M.2 a)) h.1
  refine ⟨k, ?_⟩
  have hk' : (am_W cs M)[k]? = some (a, am_cell cs (M.1.2.2 a) (M.2 a)) := hk
  rw [am_sh h] at hk'
  exact hk'
/-- one cell's numbers change -/
theorem am_upd {D : va_G} {cs : am_CS} {A : Nat → Prop} {s : State} {M : am_M} {H H1 : Heap} {locs : List Loc} {a kd n k j : Nat} {g : Nat → Int32} (hW : am_Wd D cs A s M H locs) (h : am_A M.1 a kd n)
    (hk : (am_W cs M)[k]? = some (a, am_cell cs (kd, n, (M.1.2.2 a).2.2) (M.2 a))) (hat : va_at D am_cl (a, am_cell cs (kd, n, (M.1.2.2 a).2.2) g) H1) (z : H1.size = H.size) (oq : ∀ q : Nat, q ≠ a → H1[q]? = H[q]?) :
    am_Wd D cs A s (M.1, va_up M.2 a g) H1 (locs ++ [⟨a, j⟩]) := by
  obtain ⟨hP, hD, hS, hz⟩ := hW
  have e : (am_W cs M).set k (a, am_cell cs (kd, n, (M.1.2.2 a).2.2) g) = am_W cs (M.1, va_up M.2 a g) := by
    have hk' : ([] ++ va_pl M.1.2.1 (fun a => am_cell cs (M.1.2.2 a) (M.2 a)))[k]? = some (a, am_cell cs (M.1.2.2 a) (M.2 a)) := by
      rw [am_sh h]
      exact hk
    have e1 := va_pl_set (X := []) (e := am_cell cs (kd, n, (M.1.2.2 a).2.2) g) hD h.1 hk'
    refine e1.trans (va_pl_congr (fun b => ?_))
    by_cases hb : b = a
    · subst hb
      simp only [va_up_self]
      rw [← am_sh h]
    · simp only [va_up_ne _ _ hb]
  refine ⟨?_, ?_, hS.put z oq (hD.2 k _ hk), fun n' hn => z.trans (hz n' hn)⟩
  · rw [← e]
    exact hP.set hD hk hat oq
  · rw [← e]
    exact hD.set hk
/-- one cell's references change -/
theorem am_updP {D : va_G} {cs : am_CS} {A : Nat → Prop} {s : State} {M : am_M} {H H1 : Heap} {locs : List Loc} {a kd n k j : Nat} {p : Nat → Option Nat} (hW : am_Wd D cs A s M H locs) (h : am_A M.1 a kd n)
    (hk : (am_W cs M)[k]? = some (a, am_cell cs (kd, n, (M.1.2.2 a).2.2) (M.2 a))) (hat : va_at D am_cl (a, am_cell cs (kd, n, p) (M.2 a)) H1) (z : H1.size = H.size) (oq : ∀ q : Nat, q ≠ a → H1[q]? = H[q]?) :
    am_Wd D cs A s ((M.1.1, M.1.2.1, va_up M.1.2.2 a ((M.1.2.2 a).1, (M.1.2.2 a).2.1, p)), M.2) H1 (locs ++ [⟨a, j⟩]) := by
  obtain ⟨hP, hD, hS, hz⟩ := hW
  have e : (am_W cs M).set k (a, am_cell cs (kd, n, p) (M.2 a)) = am_W cs ((M.1.1, M.1.2.1, va_up M.1.2.2 a ((M.1.2.2 a).1, (M.1.2.2 a).2.1, p)), M.2) := by
    have hk' : ([] ++ va_pl M.1.2.1 (fun a => am_cell cs (M.1.2.2 a) (M.2 a)))[k]? = some (a, am_cell cs (M.1.2.2 a) (M.2 a)) := by
      rw [am_sh h]
      exact hk
    have e1 := va_pl_set (X := []) (e := am_cell cs (kd, n, p) (M.2 a)) hD h.1 hk'
    refine e1.trans (va_pl_congr (fun b => ?_))
    by_cases hb : b = a
    · subst hb
      simp only [va_up_self]
      rw [h.2.1, h.2.2]
    · simp only [va_up_ne _ _ hb]
  refine ⟨?_, ?_, hS.put z oq (hD.2 k _ hk), fun n' hn => z.trans (hz n' hn)⟩
  · rw [← e]
    exact hP.set hD hk hat oq
  · rw [← e]
    exact hD.set hk
