/-! LOCALS, and what is checked of the code by program -/
theorem am_v_cat {sA : Nat → Nat} {B : Nat} {v : AV} (h : am_cat v = 1) : (am_v sA B v).category = 1 := by
  match v, h with
  | .inl _, _ => rfl
  | .inr (.inl _), _ => rfl
  | .inr (.inr (.inl _)), _ => rfl
  | .inr (.inr (.inr (.inr _))), _ => rfl
theorem am_v_cat2 (sA : Nat → Nat) (B : Nat) (v : AV) : (am_v sA B v).category = am_cat v := by
  match v with
  | .inl _ => rfl
  | .inr (.inl _) => rfl
  | .inr (.inr (.inl _)) => rfl
  | .inr (.inr (.inr (.inl _))) => rfl
  | .inr (.inr (.inr (.inr _))) => rfl
theorem am_sum (sA : Nat → Nat) (B : Nat) (st : List AV) : ((st.map (am_v sA B)).map fun v => v.category).sum = (st.map am_cat).sum := by
  rw [List.map_map]
  congr 1
  apply List.map_congr_left
  intro v _
  exact am_v_cat2 sA B v
theorem am_v_ref {sA : Nat → Nat} {B : Nat} {v : Nat ⊕ (Nat ⊕ (Int32 ⊕ Unit))} (h : am_cat (.inr v) = 1) : ∃ q, am_v sA B (.inr v) = .ref q := by
  match v, h with
  | .inl a, _ => exact ⟨a, rfl⟩
  | .inr (.inl k), _ => exact ⟨sA k, rfl⟩
  | .inr (.inr (.inr _)), _ => exact ⟨B, rfl⟩
/-- the locals of a frame hold what the machine's do -/
def am_lo (sA : Nat → Nat) (B : Nat) (ls : Array Slot) (nL : Nat) (lv : List (Option AV)) : Prop :=
  ls.size = nL ∧ lv_wf ls ∧ ∀ (i : Nat) (v : AV), lv[i]? = some (some v) → am_cat v = 1 ∧ ls[i]? = some (.val (am_v sA B v))
def am_ll (sA : Nat → Nat) (B : Nat) (lv : List (Option AV)) : List (Nat × Value) := (List.range lv.length).filterMap (fun i => match lv[i]? with
  | some (some v) => some (i, am_v sA B v)
  | _ => none)
theorem am_ll_mem {sA : Nat → Nat} {B : Nat} {lv : List (Option AV)} {q : Nat × Value} : q ∈ am_ll sA B lv ↔ ∃ v, lv[q.1]? = some (some v) ∧ q.2 = am_v sA B v := by
  unfold am_ll
  rw [List.mem_filterMap]
  constructor
  · rintro ⟨i, hi, h⟩
    cases hl : lv[i]? with
    | none => rw [hl] at h; cases h
    | some o =>
      cases o with
      | none => rw [hl] at h; cases h
      | some v =>
        rw [hl] at h
        cases h
        exact ⟨v, hl, rfl⟩
  · rintro ⟨v, h1, h2⟩
    refine ⟨q.1, List.mem_range.mpr (List.getElem?_eq_some_iff.mp h1).1, ?_⟩
    rw [h1]
    show some (q.1, am_v sA B v) = some q
    rw [← h2]
theorem am_lo_has {sA : Nat → Nat} {B : Nat} {ls : Array Slot} {nL : Nat} {lv : List (Option AV)} (h : am_lo sA B ls nL lv) : lv_has ls nL (am_ll sA B lv) := by
  refine ⟨h.1, h.2.1, fun q hq => ?_⟩
  obtain ⟨v, h1, h2⟩ := am_ll_mem.mp hq
  rw [h2]
  exact (h.2.2 q.1 v h1).2
theorem am_getD {lv : List (Option AV)} {i : Nat} {v : AV} (h : lv.getD i none = some v) : lv[i]? = some (some v) := by
  rw [List.getD_eq_getElem?_getD] at h
  cases hl : lv[i]? with
  | none => rw [hl] at h; cases h
  | some o => rw [hl] at h; exact congrArg some h
theorem am_lo_set {sA : Nat → Nat} {B : Nat} {ls ls' : Array Slot} {nL i : Nat} {lv : List (Option AV)} {v : AV} (h : am_lo sA B ls nL lv) (hc : am_cat v = 1)
    (h' : lv_has ls' nL ((i, am_v sA B v) :: (am_ll sA B lv).filter (fun q => !(q.1 == i) && !(q.1 + 1 == i && q.2.category == 2)))) : am_lo sA B ls' nL (lv.set i (some v)) := by
  refine ⟨h'.1, h'.2.1, fun j w hj => ?_⟩
  by_cases e : j = i
  · subst e
    rw [List.getElem?_set] at hj
    simp only [if_true] at hj
    split at hj
    · cases hj
      exact ⟨hc, h'.2.2 (j, am_v sA B v) List.mem_cons_self⟩
    · cases hj
  · rw [List.getElem?_set_ne (Ne.symm e)] at hj
    obtain ⟨c1, -⟩ := h.2.2 j w hj
    refine ⟨c1, h'.2.2 (j, am_v sA B w) (List.mem_cons_of_mem _ (List.mem_filter.mpr ⟨am_ll_mem.mpr ⟨w, hj, rfl⟩, ?_⟩))⟩
    simp [e, am_v_cat (sA := sA) (B := B) c1]
theorem am_lo_unset {sA : Nat → Nat} {B : Nat} {ls ls' : Array Slot} {nL i q : Nat} {lv : List (Option AV)} (h : am_lo sA B ls nL lv)
    (h' : lv_has ls' nL ((i, .ref q) :: (am_ll sA B lv).filter (fun q => !(q.1 == i) && !(q.1 + 1 == i && q.2.category == 2)))) : am_lo sA B ls' nL (lv.set i none) := by
  refine ⟨h'.1, h'.2.1, fun j w hj => ?_⟩
  by_cases e : j = i
  · subst e
    rw [List.getElem?_set] at hj
    simp only [if_true] at hj
    split at hj <;> cases hj
  · rw [List.getElem?_set_ne (Ne.symm e)] at hj
    obtain ⟨c1, -⟩ := h.2.2 j w hj
    refine ⟨c1, h'.2.2 (j, am_v sA B w) (List.mem_cons_of_mem _ (List.mem_filter.mpr ⟨am_ll_mem.mpr ⟨w, hj, rfl⟩, ?_⟩))⟩
    simp [e, am_v_cat (sA := sA) (B := B) c1]
/-- what is checked of a row of code: own class, locals, kind of return -/
def am_okB (o nL rt : Nat) (e : am_CE) : Bool := match e with
  | (pc, i, nx, r1, r2, x) => match i with
    | .iload_n j => j.val == r1 && nx == pc + 1
    | .iload j => j == r1 && nx == pc + 2
    | .aload_n j => j.val == r1 && nx == pc + 1
    | .aload j => j == r1 && nx == pc + 2
    | .istore_n j => j.val == r1 && decide (r1 < nL) && nx == pc + 1
    | .istore j => j == r1 && decide (r1 < nL) && nx == pc + 2
    | .astore_n j => j.val == r1 && decide (r1 < nL) && nx == pc + 1
    | .astore j => j == r1 && decide (r1 < nL) && nx == pc + 2
    | .iinc j n => j == r1 && decide (r1 < nL) && decide (Int32.ofInt n = x) && nx == pc + 3
    | .iconst n => decide (Int32.ofInt n = x) && nx == pc + 1
    | .bipush n => decide ((Int8.ofInt n).toInt32 = x) && nx == pc + 2
    | .sipush n => decide ((Int16.ofInt n).toInt32 = x) && nx == pc + 3
    | .lconst n => decide (Int64.ofNat (n : Nat) = x.toInt64) && nx == pc + 1
    | .ldc j => nx == pc + 2 && (match r1 with
      | 0 => ((am_cpI o).lookup j).any (fun q => q.1 == x)
      | _ => (am_sx[r2]?).any (fun q => q.1 == o && q.2.1 == j))
    | .ldc_w j => nx == pc + 3 && (match r1 with
      | 0 => ((am_cpI o).lookup j).any (fun q => q.1 == x)
      | _ => (am_sx[r2]?).any (fun q => q.1 == o && q.2.1 == j))
    | .iadd | .isub | .imul | .iand | .ior | .ixor | .ishl | .ishr | .iushr | .idiv | .irem | .ineg | .i2b | .i2c | .i2l | .lcmp | .dup | .dup2 | .pop | .iaload | .baload | .laload | .aaload | .iastore | .bastore | .lastore | .aastore | .arraylength => nx == pc + 1
    | .goto off => decide ((pc : Int) + off = (r1 : Int)) && nx == pc + 3
    | .ifCond _ off => decide ((pc : Int) + off = (r1 : Int)) && nx == pc + 3
    | .if_icmp _ off => decide ((pc : Int) + off = (r1 : Int)) && nx == pc + 3
    | .tableswitch d lo hi offs => decide ((pc : Int) + d = (r1 : Int)) && decide (lo ≤ hi) && decide ((offs.size : Int) = hi - lo + 1) && offs.toList.all (fun z => decide (0 ≤ (pc : Int) + z))
    | .getfield j => nx == pc + 3 && decide (r1 < 13) && decide (r2 < am_n r1) && ((am_cpF o).lookup j).any (fun q => q.1 == r1 && q.2.1 == r2) && ((x == 1 && (am_ft r1)[r2]? == some true) || (x == 0 && (am_ft r1)[r2]? == some false))
    | .putfield j => nx == pc + 3 && decide (r1 < 13) && decide (r2 < am_n r1) && ((am_cpF o).lookup j).any (fun q => q.1 == r1 && q.2.1 == r2) && (am_ft r1)[r2]? == some false && !(am_T r1 r2).2.2.2 && ((x == 0 && (am_T r1 r2).2.2.1 == "I") || (x == 2 && (am_T r1 r2).2.2.1 == "Z"))
    | .invokevirtual j => nx == pc + 3 && (match r1 with
      | 0 => ((am_cpS o).lookup j).any (fun q => q.1 == r2) && decide (r2 < 2)
      | _ => ((am_cpM o).lookup j).any (fun q => q.1 == r2) && (am_in r2).1 == r1 && (am_mt r2).2.2.1 == (am_in r2).2.1 + 1)
    | .invokestatic j => nx == pc + 3 && (match r1 with
      | 0 => ((am_cpS o).lookup j).any (fun q => q.1 == 2)
      | _ => (((am_cpM o).lookup j).any (fun q => q.1 == r2) || ((am_cpN o).lookup j).any (fun q => q.1 == r2)) && (am_in r2).1 == r1 && (am_mt r2).2.2.1 == 0)
    | .new j => ((am_cpX o).lookup j).any (fun q => q.1 == r2)
    | .ireturn => r1 == rt && rt != 1 && nx == pc + 1
    | .return_ => rt == 1 && nx == pc + 1
    | .athrow => nx == pc + 1
    | .invokespecial _ => nx == pc + 3
    | _ => true
/-- .. of the rows behind it -/
def am_okN (o : Nat) (e : am_CE) (k : List am_CE) : Bool := (match k with
  | [] => true
  | f :: _ => f.1 == e.2.2.1) && (match e with
  | (pc, i, _, _, r2, _) => match i with
    | .new _ => match k with
      | (p1, .dup, _, _, _, _) :: (p2, .ldc _, _, t1, t2, _) :: (p3, .invokespecial c, _, _, _, _) :: (p4, .athrow, _, _, _, _) :: _ => p1 == pc + 3 && p2 == pc + 4 && p3 == pc + 6 && p4 == pc + 9 && t1 == 1 && ((am_cpC o).lookup c).any (fun q => q.1 == r2)
      | (p1, .dup, _, _, _, _) :: (p2, .ldc_w _, _, t1, t2, _) :: (p3, .invokespecial c, _, _, _, _) :: (p4, .athrow, _, _, _, _) :: _ => p1 == pc + 3 && p2 == pc + 4 && p3 == pc + 7 && p4 == pc + 10 && t1 == 1 && ((am_cpC o).lookup c).any (fun q => q.1 == r2)
      | _ => false
    | _ => true)
def am_okL (o nL rt : Nat) : List am_CE → Bool
  | [] => true
  | e :: k => am_okB o nL rt e && am_okN o e k && am_okL o nL rt k
def am_suf (full k : List am_CE) : Prop := ∃ pre, full = pre ++ k
theorem am_suf_tail {full k : List am_CE} {e : am_CE} (h : am_suf full (e :: k)) : am_suf full k := by
  obtain ⟨pre, h⟩ := h
  exact ⟨pre ++ [e], by rw [h]; simp⟩
theorem am_suf_mem {full k : List am_CE} {e : am_CE} (h : am_suf full (e :: k)) : e ∈ full := by
  obtain ⟨pre, h⟩ := h
  rw [h]
  simp
theorem am_okL_suf {o nL rt : Nat} {full k : List am_CE} {e : am_CE} (h : am_suf full (e :: k)) (hok : am_okL o nL rt full = true) : am_okB o nL rt e = true ∧ am_okN o e k = true := by
  obtain ⟨pre, rfl⟩ := h
  induction pre with
  | nil =>
    simp only [List.nil_append, am_okL, Bool.and_eq_true] at hok
    exact hok.1
  | cons a pre ih =>
    simp only [List.cons_append, am_okL, Bool.and_eq_true] at hok
    exact ih hok.2
def am_pc (k : List am_CE) : Nat := match k with
  | [] => 0
  | e :: _ => e.1
theorem am_seek_suf (t : Nat) : ∀ (full : List am_CE), am_suf full (am_seek t full) ∧ (am_seek t full ≠ [] → am_pc (am_seek t full) = t)
  | [] => ⟨⟨[], rfl⟩, fun h => absurd rfl h⟩
  | e :: l => by
    by_cases h : e.1 = t
    · have h2 : am_seek t (e :: l) = e :: l := by simp [am_seek, h]
      rw [h2]
      exact ⟨⟨[], rfl⟩, fun _ => h⟩
    · have h2 : am_seek t (e :: l) = am_seek t l := by simp [am_seek, h]
      rw [h2]
      obtain ⟨⟨pre, h3⟩, h4⟩ := am_seek_suf t l
      exact ⟨⟨e :: pre, by rw [List.cons_append, ← h3]⟩, h4⟩
theorem am_next {o : Nat} {e : am_CE} {k : List am_CE} (h : am_okN o e k = true) : k ≠ [] → am_pc k = e.2.2.1 := by
  intro hk
  cases k with
  | nil => exact absurd rfl hk
  | cons f k =>
    simp only [am_okN, Bool.and_eq_true] at h
    exact (beq_iff_eq.mp h.1)
