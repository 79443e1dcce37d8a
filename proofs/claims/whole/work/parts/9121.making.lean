/-! CONSTRUCTORS: a machine that makes cells, its addresses counted from the first cell -/
abbrev kn_S : Type := Nat × (Nat → Nat × Nat) × (Nat → Nat → Option Nat) × (Nat → List (Nat × Int32))
def kn_fn (l : List (Nat × Int32)) (i : Nat) : Int32 := (l.lookup i).getD 0
theorem kn_fn_put (l : List (Nat × Int32)) (i : Nat) (x : Int32) : kn_fn ((i, x) :: l) = upd (kn_fn l) i x := by
  funext j
  by_cases h : j = i
  · subst h
    simp [kn_fn, upd, List.lookup]
  · have h2 : (j == i) = false := by simpa using h
    simp [kn_fn, upd, List.lookup, h, h2]
/-- the memory that it stands for: the first cell at b -/
def kn_M (b : Nat) (S : kn_S) : am_M := ((some (b + S.1), List.range' b S.1, fun a => if b ≤ a then ((S.2.1 (a - b)).1, (S.2.1 (a - b)).2, fun i => (S.2.2.1 (a - b) i).map (fun q => b + q)) else (9, 0, fun _ => none)), fun a => if b ≤ a then kn_fn (S.2.2.2 (a - b)) else fun _ => 0)
def kn_put (S : kn_S) (a i : Nat) (x : Int32) : kn_S := (S.1, S.2.1, S.2.2.1, va_up S.2.2.2 a ((i, x) :: S.2.2.2 a))
def kn_ptr (S : kn_S) (a i q : Nat) : kn_S := (S.1, S.2.1, va_up S.2.2.1 a (va_up (S.2.2.1 a) i (some q)), S.2.2.2)
def kn_new (S : kn_S) (kd n : Nat) : kn_S := (S.1 + 1, va_up S.2.1 S.1 (kd, n), va_up S.2.2.1 S.1 (fun _ => none), va_up S.2.2.2 S.1 [])
def kn_mul (S : kn_S) (n k : Nat) : kn_S := (S.1 + 1 + n, fun a => if a < S.1 then S.2.1 a else if a = S.1 then (5, n) else (1, k), fun a => if a < S.1 then S.2.2.1 a else if a = S.1 then fun j => if j < n then some (S.1 + 1 + j) else none else fun _ => none, fun a => if a < S.1 then S.2.2.2 a else [])
def kn_is (S : kn_S) (a kd n : Nat) : Bool := decide (a < S.1) && Nat.beq (S.2.1 a).1 kd && Nat.beq (S.2.1 a).2 n
def kn_vin (i : Int32) (n : Nat) : Bool := !(decide (i < 0)) && !(decide (n ≤ i.toNatClampNeg))
theorem kn_vin_ok {i : Int32} {n : Nat} (h : kn_vin i n = true) : vp_in i n := by
  simp only [kn_vin, Bool.and_eq_true, Bool.not_eq_true', decide_eq_false_iff_not] at h
  exact fun q => q.elim h.1 h.2
abbrev kn_R : Type := List am_CE × List (Option AV) × List AV × kn_S × Nat × Nat
/-- a row that does not call -/
def kn_row (full k : List am_CE) (q : am_CE) (lv : List (Option AV)) (st : List AV) (S : kn_S) (kc ks : Nat) : Option kn_R := match q with
  | (_, i, _, r1, r2, x) => match i with
    | .aload_n _ => match lv.getD r1 none with
      | some (.inr (.inl a)) => some (k, lv, .inr (.inl a) :: st, S, kc, ks)
      | _ => none
    | .iload_n _ => match lv.getD r1 none with
      | some (.inl v) => some (k, lv, .inl v :: st, S, kc, ks)
      | _ => none
    | .istore_n _ => match st with
      | .inl v :: s => some (k, lv.set r1 (some (.inl v)), s, S, kc, ks)
      | _ => none
    | .iinc _ _ => match lv.getD r1 none with
      | some (.inl v) => some (k, lv.set r1 (some (.inl (v + x))), st, S, kc, ks)
      | _ => none
    | .iconst _ | .bipush _ | .sipush _ | .ldc _ => some (k, lv, .inl x :: st, S, kc, ks)
    | .dup => match st with
      | .inr (.inl a) :: s => some (k, lv, .inr (.inl a) :: .inr (.inl a) :: s, S, kc, ks)
      | _ => none
    | .goto _ => some (am_seek r1 full, lv, st, S, kc, ks)
    | .if_icmp .ge _ => match st with
      | .inl b :: .inl a :: s => some (if b ≤ a then am_seek r1 full else k, lv, s, S, kc, ks)
      | _ => none
    | .getfield _ => match st with
      | .inr (.inl a) :: s => match kn_is S a 0 r1, S.2.2.1 a r2 with
        | true, some q => some (k, lv, .inr (.inl q) :: s, S, kc, ks)
        | _, _ => none
      | _ => none
    | .putfield _ => match st with
      | .inl v :: .inr (.inl a) :: s => match kn_is S a 0 r1, x.toBitVec.toNat with
        | true, 0 => some (k, lv, s, kn_put S a r2 v, kc, ks)
        | _, _ => none
      | .inr (.inl q) :: .inr (.inl a) :: s => match kn_is S a 0 r1, x.toBitVec.toNat with
        | true, 1 => some (k, lv, s, kn_ptr S a r2 q, kc, ks)
        | _, _ => none
      | _ => none
    | .arraylength => match st with
      | .inr (.inl a) :: s => match kn_is S a 6 (S.2.1 a).2 with
        | true => some (k, lv, .inl (nI (S.2.1 a).2) :: s, S, kc, ks)
        | false => none
      | _ => none
    | .aastore => match st with
      | .inr (.inl v) :: .inl i :: .inr (.inl a) :: s => match kn_is S v 0 6, kn_is S a 6 (S.2.1 a).2, kn_vin i (S.2.1 a).2 with
        | true, true, true => some (k, lv, s, kn_ptr S a i.toNatClampNeg v, kc, ks)
        | _, _, _ => none
      | _ => none
    | .iastore => match st with
      | .inl v :: .inl i :: .inr (.inl a) :: s => match kn_is S a 1 (S.2.1 a).2, kn_vin i (S.2.1 a).2 with
        | true, true => some (k, lv, s, kn_put S a i.toNatClampNeg v, kc, ks)
        | _, _ => none
      | _ => none
    | .new _ => some (k, lv, .inr (.inl S.1) :: st, kn_new S 0 r1, kc + 1, ks + r2)
    | .newarray _ => match st with
      | .inl n :: s => match decide (¬ n < 0), decide (n.toNatClampNeg ≤ 1000000) with
        | true, true => some (k, lv, .inr (.inl S.1) :: s, kn_new S r1 n.toNatClampNeg, kc + 1, ks + n.toNatClampNeg)
        | _, _ => none
      | _ => none
    | .anewarray _ => match st with
      | .inl n :: s => match decide (¬ n < 0), decide (n.toNatClampNeg ≤ 1000000) with
        | true, true => some (k, lv, .inr (.inl S.1) :: s, kn_new S 6 n.toNatClampNeg, kc + 1, ks + n.toNatClampNeg)
        | _, _ => none
      | _ => none
    | .multianewarray _ _ => match st with
      | .inl h :: .inl n :: s => match decide (¬ n < 0), decide (n.toNatClampNeg ≤ 1000000), decide (¬ h < 0), decide (h.toNatClampNeg ≤ 1000000) with
        | true, true, true, true => some (k, lv, .inr (.inl S.1) :: s, kn_mul S n.toNatClampNeg h.toNatClampNeg, kc + 1 + n.toNatClampNeg, ks + n.toNatClampNeg + n.toNatClampNeg * h.toNatClampNeg)
        | _, _, _, _ => none
      | _ => none
    | _ => none
/-- a constructor's run: f rows at most, dep calls deep, own class o -/
def kn_run : Nat → Nat → Nat → List am_CE → List (Option AV) → List AV → kn_S → Nat → Nat → Option (kn_S × Nat × Nat)
  | 0, _, _, _, _, _, _, _, _ => none
  | _ + 1, _, _, [], _, _, _, _, _ => none
  | f + 1, dep, o, (pc, i, nx, r1, r2, x) :: k, lv, st, S, kc, ks => match i with
    | .return_ => match st with
      | [] => some (S, kc, ks)
      | _ => none
    | .invokespecial _ => match r1 with
      | 0 => match st with
        | .inr (.inl _) :: s => match decide ((s.map am_cat).sum ≤ 8) with
          | true => kn_run f dep o k lv s S kc ks
          | false => none
        | _ => none
      | na + 1 => match dep, decide (na + 1 ≤ st.length), decide (((st.drop (na + 1)).map am_cat).sum ≤ 8), ((st.take (na + 1)).reverse).all (fun v => am_cat v == 1) with
        | dep' + 1, true, true, true => match (st.take (na + 1)).reverse with
          | .inr (.inl _) :: _ => match kn_run f dep' r2 (kn_mt r2).1 (am_lv (kn_mt r2).2.1 ((st.take (na + 1)).reverse)) [] S 0 0 with
            | some (S', c', s') => kn_run f (dep' + 1) o k lv (st.drop (na + 1)) S' (kc + c') (ks + s')
            | none => none
          | _ => none
        | _, _, _, _ => none
    | _ => match kn_row (kn_mt o).1 k (pc, i, nx, r1, r2, x) lv st S kc ks with
      | some (k', lv', st', S', kc', ks') => kn_run f dep o k' lv' st' S' kc' ks'
      | none => none
/-- what is checked of a row -/
def kn_okB (o : Nat) (e : am_CE) : Bool := match e with
  | (pc, i, nx, r1, r2, x) => match i with
    | .iload_n j => j.val == r1 && nx == pc + 1
    | .aload_n j => j.val == r1 && nx == pc + 1
    | .istore_n j => j.val == r1 && decide (r1 < (kn_mt o).2.1) && nx == pc + 1
    | .iinc j n => j == r1 && decide (r1 < (kn_mt o).2.1) && decide (Int32.ofInt n = x) && nx == pc + 3
    | .iconst n => decide (Int32.ofInt n = x) && nx == pc + 1
    | .bipush n => decide ((Int8.ofInt n).toInt32 = x) && nx == pc + 2
    | .sipush n => decide ((Int16.ofInt n).toInt32 = x) && nx == pc + 3
    | .ldc j => nx == pc + 2 && ((am_cpI o).lookup j).any (fun q => q.1 == x)
    | .dup | .iastore | .aastore | .arraylength | .return_ => nx == pc + 1
    | .goto off => decide ((pc : Int) + off = (r1 : Int)) && nx == pc + 3
    | .if_icmp _ off => decide ((pc : Int) + off = (r1 : Int)) && nx == pc + 3
    | .getfield j => nx == pc + 3 && decide (r1 < 13) && decide (r2 < am_n r1) && ((am_cpF o).lookup j).any (fun q => q.1 == r1 && q.2.1 == r2) && (am_ft r1)[r2]? == some true
    | .putfield j => nx == pc + 3 && r1 == o && decide (r2 < am_n r1) && ((am_cpF o).lookup j).any (fun q => q.1 == r1 && q.2.1 == r2) && ((x == 1 && (am_ft r1)[r2]? == some true && (am_T r1 r2).2.2.2) || (x == 0 && (am_ft r1)[r2]? == some false && !(am_T r1 r2).2.2.2 && (am_T r1 r2).2.2.1 == "I"))
    | .new j => nx == pc + 3 && decide (r1 < 13) && r2 == am_n r1 && ((kn_cl o).lookup j).any (fun q => q.1 == r1)
    | .newarray t => nx == pc + 2 && ((decide (t = .int) && r1 == 1) || (decide (t = .byte) && r1 == 2) || (decide (t = .boolean) && r1 == 3) || (decide (t = .long) && r1 == 4))
    | .anewarray j => nx == pc + 3 && ((kn_cl o).lookup j).any (fun q => q.1 == 6)
    | .multianewarray j d => nx == pc + 4 && d == 2 && ((kn_cm o).lookup j).any (fun _ => true)
    | .invokespecial j => nx == pc + 3 && (match r1 with
      | 0 => ((kn_co o).lookup j).any (fun _ => true)
      | _ => decide (r2 < 13) && r1 == (kn_mt r2).2.2 && (((kn_ci o).lookup j).any (fun q => q.1 == r2) || ((kn_cn o).lookup j).any (fun q => q.1 == r2)))
    | _ => false
def kn_okL (o : Nat) : List am_CE → Bool
  | [] => true
  | e :: k => kn_okB o e && (match k with
    | [] => true
    | f :: _ => f.1 == e.2.2.1) && kn_okL o k
theorem kn_tok : ∀ o, o < 13 → kn_okL o (kn_mt o).1 = true := by decide +kernel
theorem kn_okL_suf {o : Nat} {full k : List am_CE} {e : am_CE} (h : am_suf full (e :: k)) (hok : kn_okL o full = true) : kn_okB o e = true ∧ (k ≠ [] → am_pc k = e.2.2.1) := by
  obtain ⟨pre, rfl⟩ := h
  induction pre with
  | nil =>
    simp only [List.nil_append, kn_okL, Bool.and_eq_true] at hok
    refine ⟨hok.1.1, fun hk => ?_⟩
    cases k with
    | nil => exact absurd rfl hk
    | cons f k => exact beq_iff_eq.mp hok.1.2
  | cons a pre ih =>
    simp only [List.cons_append, kn_okL, Bool.and_eq_true] at hok
    exact ih hok.2
/-! what it does to the heap -/
theorem kn_A {b : Nat} {S : kn_S} {a kd n : Nat} (h : kn_is S a kd n = true) : am_A (kn_M b S).1 (b + a) kd n := by
  simp only [kn_is, Bool.and_eq_true, decide_eq_true_eq] at h
  obtain ⟨⟨h1, h2⟩, h3⟩ := h
  have h2 := Nat.eq_of_beq_eq_true h2
  have h3 := Nat.eq_of_beq_eq_true h3
  refine ⟨?_, ?_, ?_⟩
  · show b + a ∈ List.range' b S.1
    rw [List.mem_range'_1]
    omega
  · show (if b ≤ b + a then _ else _ : am_Sh).1 = kd
    rw [if_pos (by omega), Nat.add_sub_cancel_left]
    exact h2
  · show (if b ≤ b + a then _ else _ : am_Sh).2.1 = n
    rw [if_pos (by omega), Nat.add_sub_cancel_left]
    exact h3
theorem kn_Mp {b : Nat} {S : kn_S} {a i : Nat} : ((kn_M b S).1.2.2 (b + a)).2.2 i = (S.2.2.1 a i).map (fun q => b + q) := by
  show (if b ≤ b + a then _ else _ : am_Sh).2.2 i = _
  rw [if_pos (by omega), Nat.add_sub_cancel_left]
theorem kn_Ms {b : Nat} {S : kn_S} {a : Nat} : (kn_M b S).2 (b + a) = kn_fn (S.2.2.2 a) := by
  show (if b ≤ b + a then kn_fn (S.2.2.2 (b + a - b)) else fun _ => 0) = _
  rw [if_pos (by omega), Nat.add_sub_cancel_left]
theorem kn_set {b : Nat} {S : kn_S} {a i : Nat} {x : Int32} : am_set (kn_M b S) (b + a) i x = kn_M b (kn_put S a i x) := by
  refine Prod.ext rfl ?_
  funext c
  show va_up (kn_M b S).2 (b + a) (upd ((kn_M b S).2 (b + a)) i x) c = if b ≤ c then kn_fn (va_up S.2.2.2 a ((i, x) :: S.2.2.2 a) (c - b)) else fun _ => 0
  by_cases h : c = b + a
  · subst h
    rw [va_up_self, if_pos (by omega), Nat.add_sub_cancel_left, va_up_self, kn_Ms, kn_fn_put]
  · rw [va_up_ne _ _ h]
    show (if b ≤ c then kn_fn (S.2.2.2 (c - b)) else fun _ => 0) = _
    by_cases h2 : b ≤ c
    · rw [if_pos h2, if_pos h2, va_up_ne _ _ (by omega)]
    · rw [if_neg h2, if_neg h2]
theorem kn_setP {b : Nat} {S : kn_S} {a i q : Nat} : am_ptr (kn_M b S) (b + a) i (b + q) = kn_M b (kn_ptr S a i q) := by
  refine Prod.ext (Prod.ext rfl (Prod.ext rfl ?_)) rfl
  funext c
  show va_up (kn_M b S).1.2.2 (b + a) (((kn_M b S).1.2.2 (b + a)).1, ((kn_M b S).1.2.2 (b + a)).2.1, va_up ((kn_M b S).1.2.2 (b + a)).2.2 i (some (b + q))) c = if b ≤ c then ((S.2.1 (c - b)).1, (S.2.1 (c - b)).2, fun j => (va_up S.2.2.1 a (va_up (S.2.2.1 a) i (some q)) (c - b) j).map (fun z => b + z)) else (9, 0, fun _ => none)
  by_cases h : c = b + a
  · subst h
    rw [va_up_self, if_pos (by omega), Nat.add_sub_cancel_left, va_up_self]
    have e : (kn_M b S).1.2.2 (b + a) = ((S.2.1 a).1, (S.2.1 a).2, fun i => (S.2.2.1 a i).map (fun q => b + q)) := by
      show (if b ≤ b + a then _ else _ : am_Sh) = _
      rw [if_pos (by omega), Nat.add_sub_cancel_left]
    rw [e]
    refine Prod.ext rfl (Prod.ext rfl ?_)
    funext j
    by_cases hj : j = i
    · subst hj
      simp [va_up]
    · simp [va_up, hj]
  · rw [va_up_ne _ _ h]
    show (if b ≤ c then _ else _ : am_Sh) = _
    by_cases h2 : b ≤ c
    · rw [if_pos h2, if_pos h2, va_up_ne _ _ (by omega)]
    · rw [if_neg h2, if_neg h2]
theorem am_fs_setP : ∀ (t : List Bool) (k j : Nat) (p : Nat → Option Nat) (g : Nat → Int32) (q : Nat), t[j]? = some true → (am_fs t k p g).set j (.ref q) = am_fs t k (va_up p (k + j) (some q)) g
  | [], _, _, _, _, _, h => by simp at h
  | b :: t, k, 0, p, g, q, h => by
    have hb : b = true := by simpa using h
    subst hb
    have e : ∀ (t : List Bool) (k' : Nat), k < k' → am_fs t k' p g = am_fs t k' (va_up p k (some q)) g := by
      intro t
      induction t with
      | nil => intro k' _; rfl
      | cons c t ih =>
        intro k' hk
        simp only [am_fs]
        rw [ih (k' + 1) (by omega), va_up_ne _ _ (show k' ≠ k by omega)]
    simp only [am_fs, List.set_cons_zero, Nat.add_zero]
    rw [← e t (k + 1) (by omega), va_up_self]
    rfl
  | b :: t, k, j + 1, p, g, q, h => by
    have h' : t[j]? = some true := by simpa using h
    simp only [am_fs, List.set_cons_succ]
    rw [am_fs_setP t (k + 1) j p g q h', show k + 1 + j = k + (j + 1) by omega, va_up_ne _ _ (show k ≠ k + (j + 1) by omega)]
theorem kn_born : ∀ ci, ci < 13 → ∀ j, j < am_n ci → defaultValue (am_ty ci j) = vp_V (am_fs (am_ft ci) 0 (fun _ => none) (fun _ => 0)) j := by decide +kernel
theorem kn_reff0 : ∀ ci, ci < 13 → ∀ j, j < am_n ci → (am_ft ci)[j]? = some true → (am_ty ci j).isReference = true := by decide +kernel
theorem kn_reff (ci : Nat) (h : ci < 13) (j : Nat) (hj : j < am_n ci) (hb : (am_ft ci)[j]? = some true) (q : Nat) : narrow (am_ty ci j) (.ref q) = .ref q ∧ fits (am_ty ci j) (.ref q) = true := by
  have h1 := kn_reff0 ci h j hj hb
  revert h1
  cases am_ty ci j <;> intro h1 <;> first | exact ⟨rfl, rfl⟩ | cases h1
section KNH
variable {D : va_G} {cs : am_CS} {A : Nat → Prop} {s : State} {H H1 : Heap} {locs locs1 : List Loc} {b : Nat} {S S' : kn_S}
def kn_c (cs : am_CS) (b : Nat) (S : kn_S) (k : Nat) : va_E := am_cell cs ((S.2.1 k).1, (S.2.1 k).2, fun i => (S.2.2.1 k i).map (fun q => b + q)) (kn_fn (S.2.2.2 k))
theorem kn_Wat {cs : am_CS} {b : Nat} {S : kn_S} {k : Nat} {q : Nat × va_E} (h : (am_W cs (kn_M b S))[k]? = some q) : k < S.1 ∧ q = (b + k, kn_c cs b S k) := by
  have h : ((List.range' b S.1).map (fun a => (a, am_cell cs ((kn_M b S).1.2.2 a) ((kn_M b S).2 a))))[k]? = some q := h
  rw [List.getElem?_map] at h
  by_cases hk : k < S.1
  · rw [List.getElem?_range' hk] at h
    simp only [Option.map_some, Option.some.injEq, Nat.one_mul] at h
    refine ⟨hk, h.symm.trans (Prod.ext rfl ?_)⟩
    show am_cell cs ((kn_M b S).1.2.2 (b + k)) ((kn_M b S).2 (b + k)) = _
    rw [kn_Ms]
    have e : (kn_M b S).1.2.2 (b + k) = ((S.2.1 k).1, (S.2.1 k).2, fun i => (S.2.2.1 k i).map (fun q => b + q)) := by
      show (if b ≤ b + k then _ else _ : am_Sh) = _
      rw [if_pos (by omega), Nat.add_sub_cancel_left]
    rw [e]
    rfl
  · rw [List.getElem?_eq_none (by rw [List.length_range']; omega)] at h
    cases h
theorem kn_Wget {cs : am_CS} {b : Nat} {S : kn_S} {k : Nat} (h : k < S.1) : (am_W cs (kn_M b S))[k]? = some (b + k, kn_c cs b S k) := by
  cases e : (am_W cs (kn_M b S))[k]? with
  | some q => rw [(kn_Wat e).2]
  | none =>
    have h2 := List.getElem?_eq_none_iff.mp e
    have h3 : (am_W cs (kn_M b S)).length = S.1 := by
      show ((List.range' b S.1).map _).length = S.1
      rw [List.length_map, List.length_range']
    omega
/-- cells are made -/
theorem kn_grow (hW : am_Wd D cs A s (kn_M b S) H locs) (hle : S.1 ≤ S'.1) (hsame : ∀ k, k < S.1 → S'.2.1 k = S.2.1 k ∧ S'.2.2.1 k = S.2.2.1 k ∧ S'.2.2.2 k = S.2.2.2 k) (hz : H1.size = b + S'.1) (hold : ∀ q : Nat, q < H.size → H1[q]? = H[q]?)
    (hnew : ∀ k, S.1 ≤ k → k < S'.1 → va_at D am_cl (b + k, kn_c cs b S' k) H1) (hA : ∀ q, s.heap.size ≤ q → A q) (hl : ∀ z ∈ locs1, z ∈ locs ∨ H.size ≤ z.base) : am_Wd D cs A s (kn_M b S') H1 locs1 := by
  obtain ⟨hP, hD, hS, hsz⟩ := hW
  have hsz : H.size = b + S.1 := hsz _ rfl
  have hc : ∀ k, k < S.1 → kn_c cs b S' k = kn_c cs b S k := by
    intro k hk
    obtain ⟨h1, h2, h3⟩ := hsame k hk
    unfold kn_c
    rw [h1, h2, h3]
  refine ⟨fun k q hq => ?_, ⟨fun i j x y hi hj hxy => ?_, fun k q hq => ?_⟩, ⟨by have := hS.1; omega, fun q h1 h2 => (hold q (by have := hS.1; omega)).trans (hS.2.1 q h1 h2), fun z hz => ?_⟩, fun n hn => ?_⟩
  · obtain ⟨hk, rfl⟩ := kn_Wat hq
    by_cases h : k < S.1
    · have h1 := hP k _ (kn_Wget h)
      rw [hc k h]
      exact h1.kept (hold _ (show b + k < H.size by omega))
    · exact hnew k (by omega) hk
  · obtain ⟨-, rfl⟩ := kn_Wat hi
    obtain ⟨-, rfl⟩ := kn_Wat hj
    have : b + i = b + j := hxy
    omega
  · obtain ⟨hk, rfl⟩ := kn_Wat hq
    by_cases h : k < S.1
    · exact hD.2 k (b + k, kn_c cs b S k) (kn_Wget h)
    · exact hA _ (show s.heap.size ≤ b + k by have := hS.1; omega)
  · rcases hl z hz with h | h
    · exact hS.2.2 z h
    · exact hA _ (Nat.le_trans hS.1 h)
  · cases hn
    exact hz
theorem kn_grow1 {kd n : Nat} (hW : am_Wd D cs A s (kn_M b S) H locs) (hz : H1.size = H.size + 1) (hold : ∀ q : Nat, q < H.size → H1[q]? = H[q]?) (hnew : va_at D am_cl (H.size, am_cell cs (kd, n, fun _ => none) (fun _ => 0)) H1) (hA : ∀ q, s.heap.size ≤ q → A q) : am_Wd D cs A s (kn_M b (kn_new S kd n)) H1 locs := by
  have hsz : H.size = b + S.1 := hW.2.2.2 _ rfl
  refine kn_grow hW (Nat.le_succ _) (fun k hk => ⟨va_up_ne _ _ (by omega), va_up_ne _ _ (by omega), va_up_ne _ _ (by omega)⟩) (by rw [hz, hsz]; rfl) hold (fun k h1 h2 => ?_) hA (fun z h => Or.inl h)
  have e : k = S.1 := by
    have : k < S.1 + 1 := h2
    omega
  subst e
  rw [← hsz]
  have e2 : kn_c cs b (kn_new S kd n) S.1 = am_cell cs (kd, n, fun _ => none) (fun _ => 0) := by
    unfold kn_c kn_new
    simp only [va_up_self]
    rfl
  rw [e2]
  exact hnew
theorem kn_growM {n h : Nat} (hW : am_Wd D cs A s (kn_M b S) H locs) (hz : H1.size = H.size + 1 + n) (hold : ∀ q : Nat, q < H.size → H1[q]? = H[q]?) (ho : H1[H.size]? = some (arrV cs.2.2.2.2.1 n (fun j => .ref (H.size + 1 + j)))) (hi : ∀ j, j < n → H1[H.size + 1 + j]? = some (arrV cs.1 h (fun _ => .int 0))) (hA : ∀ q, s.heap.size ≤ q → A q) (hl : ∀ z ∈ locs1, z ∈ locs ∨ H.size ≤ z.base) : am_Wd D cs A s (kn_M b (kn_mul S n h)) H1 locs1 := by
  have hsz : H.size = b + S.1 := hW.2.2.2 _ rfl
  have e1 : ∀ k, (kn_mul S n h).2.1 k = if k < S.1 then S.2.1 k else if k = S.1 then (5, n) else (1, h) := fun k => rfl
  have e2 : ∀ k, (kn_mul S n h).2.2.1 k = if k < S.1 then S.2.2.1 k else if k = S.1 then fun j => if j < n then some (S.1 + 1 + j) else none else fun _ => none := fun k => rfl
  have e3 : ∀ k, (kn_mul S n h).2.2.2 k = if k < S.1 then S.2.2.2 k else [] := fun k => rfl
  refine kn_grow hW (by show S.1 ≤ S.1 + 1 + n; omega) (fun k hk => ⟨by rw [e1, if_pos hk], by rw [e2, if_pos hk], by rw [e3, if_pos hk]⟩) (by rw [hz, hsz]; show b + S.1 + 1 + n = b + (S.1 + 1 + n); omega) hold (fun k h1 h2 => ?_) hA hl
  have h2 : k < S.1 + 1 + n := h2
  by_cases h3 : k = S.1
  · subst h3
    have e4 : kn_c cs b (kn_mul S n h) S.1 = .inl (cs.2.2.2.2.1, n, .inr (.inr (.inr (.inr (fun i => (if i < n then some (S.1 + 1 + i) else none : Option Nat).map (fun q => b + q)))))) := by
      unfold kn_c
      rw [e1, e2, e3]
      simp only [Nat.lt_irrefl, if_false, if_true]
      rfl
    rw [e4]
    show H1[b + S.1]? = some (vp_cell _ _)
    rw [vp_cell_q, ← hsz, ho]
    congr 1
    unfold arrV
    congr 1
    apply Array.ext
    · simp
    · intro i g1 g2
      simp only [Array.size_ofFn] at g1
      simp only [Array.getElem_ofFn, g1, if_true]
      show Value.ref (H.size + 1 + i) = Value.ref (b + (S.1 + 1 + i))
      have e5 : H.size + 1 + i = b + (S.1 + 1 + i) := by rw [hsz]; omega
      rw [e5]
  · have e4 : kn_c cs b (kn_mul S n h) k = .inl (cs.1, h, .inl (fun _ => 0)) := by
      unfold kn_c
      rw [e1, e2, e3]
      simp only [show ¬ k < S.1 by omega, h3, if_false]
      rfl
    rw [e4]
    have := hi (k - S.1 - 1) (by omega)
    rw [show H.size + 1 + (k - S.1 - 1) = b + k by omega] at this
    exact this
end KNH
