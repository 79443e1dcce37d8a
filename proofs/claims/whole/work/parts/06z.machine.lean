/-! THE MACHINE -/
abbrev am_K : Type := List am_CE → List (Option AV) → List AV → am_M → Nat → Nat → Prop
def am_cat (v : AV) : Nat := match v with
  | .inr (.inr (.inr (.inl _))) => 2
  | _ => 1
def am_v (sA : Nat → Nat) (B : Nat) (v : AV) : Value := match v with
  | .inl x => .int x
  | .inr (.inl a) => .ref a
  | .inr (.inr (.inl k)) => .ref (sA k)
  | .inr (.inr (.inr (.inl x))) => .long x.toInt64
  | .inr (.inr (.inr (.inr _))) => .ref B
def am_pI (st : List AV) (k : Int32 → List AV → Prop) : Prop := match st with
  | .inl x :: s => k x s
  | _ => False
def am_pR (st : List AV) (k : Nat → List AV → Prop) : Prop := match st with
  | .inr (.inl a) :: s => k a s
  | _ => False
def am_pL (st : List AV) (k : Int32 → List AV → Prop) : Prop := match st with
  | .inr (.inr (.inr (.inl x))) :: s => k x s
  | _ => False
def am_p1 (st : List AV) (k : AV → List AV → Prop) : Prop := match st with
  | v :: s => am_cat v = 1 ∧ k v s
  | _ => False
def am_seek (t : Nat) : List am_CE → List am_CE
  | [] => []
  | e :: l => if e.1 = t then e :: l else am_seek t l
/-- a cell of the pool, of that kind and length (or class) -/
def am_A (E : am_E) (a kd n : Nat) : Prop := a ∈ E.2.1 ∧ (E.2.2 a).1 = kd ∧ (E.2.2 a).2.1 = n
def am_set (M : am_M) (a i : Nat) (x : Int32) : am_M := (M.1, va_up M.2 a (upd (M.2 a) i x))
def am_row (M : am_M) (a : Nat) (f : Nat → Int32) : am_M := ((none, M.1.2.1, M.1.2.2), va_up M.2 a f)
def am_ptr (M : am_M) (a i q : Nat) : am_M := ((M.1.1, M.1.2.1, va_up M.1.2.2 a ((M.1.2.2 a).1, (M.1.2.2 a).2.1, va_up (M.1.2.2 a).2.2 i (some q))), M.2)
def am_br (c : Prop) (A B : Prop) : Prop := (c → A) ∧ (¬ c → B)
/-- the conditions of if<cond> and if_icmp<cond> -/
def am_if (c : ClassFile.Cond) (x y : Int32) (A B : Prop) : Prop := match c with
  | .eq => (x = y → A) ∧ (¬ x = y → B)
  | .ne => (¬ x = y → A) ∧ (x = y → B)
  | .lt => (x < y → A) ∧ (¬ x < y → B)
  | .ge => (y ≤ x → A) ∧ (¬ y ≤ x → B)
  | .gt => (y < x → A) ∧ (¬ y < x → B)
  | .le => (x ≤ y → A) ∧ (¬ x ≤ y → B)
def am_lcmp (x y : Int32) : Int32 := if y < x then 1 else if x = y then 0 else -1
/-- how an int lies in a field: 1 as a boolean, else as it is -/
def am_fit (f : Nat) (x : Int32) : Prop := match f with
  | 2 => vp_nar .boolean x = x
  | _ => True
section AM
variable (X : Nat × (Nat → Int32)) (SL : Nat → List Int32) (C : Nat → List AV → am_M → am_R → Prop) (full : List am_CE) (hs : List (Nat × Nat × Nat))
/-- behind a call -/
def am_ret (k : List am_CE) (lv : List (Option AV)) (rest : List AV) (kc ks : Nat) (Next : am_K) (End : am_R → Prop) (r : am_R) : Prop := match r.2.1 with
  | .inl v => Next k lv (v.toList ++ rest) r.1 (kc + r.2.2.1) (ks + r.2.2.2)
  | .inr E => match hs with
    | [] => End (r.1, .inr E, kc + r.2.2.1, ks + r.2.2.2)
    | _ => match hs.lookup E with
      | some h => Next (am_seek h.1 full) (lv.set h.2 none) [] r.1 (kc + r.2.2.1) (ks + r.2.2.2)
      | none => False
def am_call (na y : Nat) (k : List am_CE) (lv : List (Option AV)) (st : List AV) (M : am_M) (kc ks : Nat) (Next : am_K) (End : am_R → Prop) : Prop :=
  na ≤ st.length ∧ ((st.drop na).map am_cat).sum ≤ 8 ∧ ∃ r : am_R, C y (st.take na).reverse M r ∧ am_ret full hs k lv (st.drop na) kc ks Next End r
def am_stp (k : List am_CE) (e : am_CE) (lv : List (Option AV)) (st : List AV) (M : am_M) (kc ks : Nat) (Next : am_K) (End : am_R → Prop) : Prop := match e with
  | (pc, i, _, r1, r2, x) => match i with
    | .iload_n _ | .iload _ => match lv.getD r1 none with
      | some (.inl v) => Next k lv (vI v :: st) M kc ks
      | _ => False
    | .aload_n _ | .aload _ => match lv.getD r1 none with
      | some (.inr v) => Next k lv (.inr v :: st) M kc ks
      | _ => False
    | .istore_n _ | .istore _ => am_pI st fun v s => Next k (lv.set r1 (some (vI v))) s M kc ks
    | .astore_n _ | .astore _ => match st with
      | .inr v :: s => am_cat (.inr v) = 1 ∧ Next k (lv.set r1 (some (.inr v))) s M kc ks
      | _ => False
    | .iinc _ _ => match lv.getD r1 none with
      | some (.inl v) => Next k (lv.set r1 (some (vI (v + x)))) st M kc ks
      | _ => False
    | .iconst _ | .bipush _ | .sipush _ => Next k lv (vI x :: st) M kc ks
    | .ldc _ | .ldc_w _ => match r1 with
      | 0 => Next k lv (vI x :: st) M kc ks
      | _ => Next k lv (vS r2 :: st) M kc ks
    | .lconst _ => Next k lv (vL x :: st) M kc ks
    | .iadd => am_pI st fun b s => am_pI s fun a s => Next k lv (vI (a + b) :: s) M kc ks
    | .isub => am_pI st fun b s => am_pI s fun a s => Next k lv (vI (a - b) :: s) M kc ks
    | .imul => am_pI st fun b s => am_pI s fun a s => Next k lv (vI (a * b) :: s) M kc ks
    | .iand => am_pI st fun b s => am_pI s fun a s => Next k lv (vI (a &&& b) :: s) M kc ks
    | .ior => am_pI st fun b s => am_pI s fun a s => Next k lv (vI (a ||| b) :: s) M kc ks
    | .ixor => am_pI st fun b s => am_pI s fun a s => Next k lv (vI (a ^^^ b) :: s) M kc ks
    | .ishl => am_pI st fun b s => am_pI s fun a s => Next k lv (vI (a <<< (b &&& 31)) :: s) M kc ks
    | .ishr => am_pI st fun b s => am_pI s fun a s => Next k lv (vI (a >>> (b &&& 31)) :: s) M kc ks
    | .iushr => am_pI st fun b s => am_pI s fun a s => Next k lv (vI (a.toUInt32 >>> (b.toUInt32 &&& Int32.toUInt32 31)).toInt32 :: s) M kc ks
    | .idiv => am_pI st fun b s => am_pI s fun a s => ¬ b = 0 ∧ Next k lv (vI (a / b) :: s) M kc ks
    | .irem => am_pI st fun b s => am_pI s fun a s => ¬ b = 0 ∧ Next k lv (vI (a - a / b * b) :: s) M kc ks
    | .ineg => am_pI st fun a s => Next k lv (vI (-a) :: s) M kc ks
    | .i2b => am_pI st fun a s => Next k lv (vI a.toInt8.toInt32 :: s) M kc ks
    | .i2c => am_pI st fun a s => Next k lv (vI (a.toUInt32 % 65536).toInt32 :: s) M kc ks
    | .i2l => am_pI st fun a s => Next k lv (vL a :: s) M kc ks
    | .lcmp => am_pL st fun b s => am_pL s fun a s => Next k lv (vI (am_lcmp a b) :: s) M kc ks
    | .dup => am_p1 st fun v s => Next k lv (v :: v :: s) M kc ks
    | .dup2 => am_p1 st fun v s => am_p1 s fun w s => Next k lv (v :: w :: v :: w :: s) M kc ks
    | .pop => am_p1 st fun _ s => Next k lv s M kc ks
    | .goto _ => Next (am_seek r1 full) lv st M kc ks
    | .ifCond c _ => am_pI st fun a s => am_if c a 0 (Next (am_seek r1 full) lv s M kc ks) (Next k lv s M kc ks)
    | .if_icmp c _ => am_pI st fun b s => am_pI s fun a s => am_if c a b (Next (am_seek r1 full) lv s M kc ks) (Next k lv s M kc ks)
    | .tableswitch _ lo hi offs => am_pI st fun a s => am_br (a.toInt < lo ∨ hi < a.toInt) (Next (am_seek r1 full) lv s M kc ks) (Next (am_seek ((pc : Int) + offs.getD (a.toInt - lo).toNat 0).toNat full) lv s M kc ks)
    | .getfield _ => am_pR st fun a s => am_A M.1 a 0 r1 ∧ (match x.toBitVec.toNat with
      | 1 => ∃ q, (M.1.2.2 a).2.2 r2 = some q ∧ Next k lv (vR q :: s) M kc ks
      | _ => Next k lv (vI (M.2 a r2) :: s) M kc ks)
    | .putfield _ => am_pI st fun v s => am_pR s fun a s => am_A M.1 a 0 r1 ∧ am_fit x.toBitVec.toNat v ∧ Next k lv s (am_set M a r2 v) kc ks
    | .iaload => am_pI st fun i s => match s with
      | .inr (.inl a) :: s => ∃ n, am_A M.1 a 1 n ∧ vp_in i n ∧ Next k lv (vI (M.2 a i.toNatClampNeg) :: s) M kc ks
      | .inr (.inr (.inr (.inr _))) :: s => vp_in i X.1 ∧ Next k lv (vI (X.2 i.toNatClampNeg) :: s) M kc ks
      | _ => False
    | .baload => am_pI st fun i s => am_pR s fun a s => ∃ kd n, (kd = 2 ∨ kd = 3) ∧ am_A M.1 a kd n ∧ vp_in i n ∧ Next k lv (vI (M.2 a i.toNatClampNeg) :: s) M kc ks
    | .laload => am_pI st fun i s => am_pR s fun a s => ∃ n, am_A M.1 a 4 n ∧ vp_in i n ∧ Next k lv (vL (M.2 a i.toNatClampNeg) :: s) M kc ks
    | .aaload => am_pI st fun i s => am_pR s fun a s => ∃ kd n q, (kd = 5 ∨ kd = 6) ∧ am_A M.1 a kd n ∧ vp_in i n ∧ (M.1.2.2 a).2.2 i.toNatClampNeg = some q ∧ Next k lv (vR q :: s) M kc ks
    | .iastore => am_pI st fun v s => am_pI s fun i s => am_pR s fun a s => ∃ n, am_A M.1 a 1 n ∧ vp_in i n ∧ Next k lv s (am_set M a i.toNatClampNeg v) kc ks
    | .bastore => am_pI st fun v s => am_pI s fun i s => am_pR s fun a s => ∃ n, vp_in i n ∧ ((am_A M.1 a 2 n ∧ Next k lv s (am_set M a i.toNatClampNeg (vp_nar .byte v)) kc ks) ∨ (am_A M.1 a 3 n ∧ Next k lv s (am_set M a i.toNatClampNeg (vp_nar .boolean v)) kc ks))
    | .lastore => am_pL st fun v s => am_pI s fun i s => am_pR s fun a s => ∃ n, am_A M.1 a 4 n ∧ vp_in i n ∧ Next k lv s (am_set M a i.toNatClampNeg v) kc ks
    | .aastore => am_pR st fun v s => am_pI s fun i s => am_pR s fun a s => ∃ n, am_A M.1 v 0 6 ∧ am_A M.1 a 6 n ∧ vp_in i n ∧ Next k lv s (am_ptr M a i.toNatClampNeg v) kc ks
    | .arraylength => match st with
      | .inr (.inl a) :: s => ∃ kd n, kd ≠ 0 ∧ kd ≤ 6 ∧ am_A M.1 a kd n ∧ Next k lv (vI (nI n) :: s) M kc ks
      | .inr (.inr (.inr (.inr _))) :: s => Next k lv (vI (nI X.1) :: s) M kc ks
      | _ => False
    | .invokevirtual _ => match r1 with
      | 0 => match r2, st with
        | 0, .inr (.inr (.inl j)) :: s => j < 77 ∧ (s.map am_cat).sum ≤ 8 ∧ Next k lv (vI (nI (SL j).length) :: s) M kc ks
        | 1, .inl i :: .inr (.inr (.inl j)) :: s => j < 77 ∧ (s.map am_cat).sum ≤ 8 ∧ vp_in i (SL j).length ∧ Next k lv (vI ((SL j).getD i.toNatClampNeg 0) :: s) M kc ks
        | _, _ => False
      | na => am_call C full hs na r2 k lv st M kc ks Next End
    | .invokestatic _ => match r1 with
      | 0 => am_pI st fun n s => am_pI s fun dp s => am_pR s fun b s => am_pI s fun sp s => am_pR s fun a s => ∃ n0 n1, am_A M.1 a 1 n0 ∧ am_A M.1 b 1 n1 ∧ ¬ sp < 0 ∧ ¬ dp < 0 ∧ ¬ n < 0 ∧ sp.toNatClampNeg + n.toNatClampNeg ≤ n0 ∧ dp.toNatClampNeg + n.toNatClampNeg ≤ n1 ∧ (s.map am_cat).sum ≤ 8 ∧
          Next k lv s (am_row M b (va_cpy (M.2 a) (M.2 b) sp.toNatClampNeg dp.toNatClampNeg n.toNatClampNeg)) kc ks
      | na => am_call C full hs na r2 k lv st M kc ks Next End
    | .new _ => hs = [] ∧ (st.map am_cat).sum ≤ 8 ∧ End (((none, M.1.2.1, M.1.2.2), M.2), .inr r2, kc + 1, ks + 6)
    | .ireturn => am_pI st fun v s => s = [] ∧ am_fit r1 v ∧ End (M, .inl (some (vI v)), kc, ks)
    | .return_ => st = [] ∧ End (M, .inl none, kc, ks)
    | _ => False
def am_Run : Nat → List am_CE → List (Option AV) → List AV → am_M → Nat → Nat → am_R → Prop
  | 0, _, _, _, _, _, _, _ => False
  | _ + 1, [], _, _, _, _, _, _ => False
  | n + 1, e :: k, lv, st, M, kc, ks, r => am_stp X SL C full hs k e lv st M kc ks (fun k' lv' st' M' kc' ks' => am_Run n k' lv' st' M' kc' ks' r) (fun r' => r' = r)
end AM
def am_recv (c : Nat) (E : am_E) (args : List AV) : Prop := match c with
  | 0 => True
  | c + 1 => match args with
    | .inr (.inl b) :: _ => am_A E b 0 c
    | _ => False
def am_lv (maxL : Nat) (args : List AV) : List (Option AV) := args.map some ++ List.replicate (maxL - args.length) none
def am_Call (X : Nat × (Nat → Int32)) (SL : Nat → List Int32) (mt : Nat → am_MI) : Nat → Nat → List AV → am_M → am_R → Prop
  | 0, _, _, _, _ => False
  | d + 1, y, args, M, r => am_recv (mt y).2.2.1 M.1 args ∧ (∀ v ∈ args, am_cat v = 1) ∧ ∃ n, am_Run X SL (am_Call X SL mt d) (mt y).1 (mt y).2.2.2 n (mt y).1 (am_lv (mt y).2.1 args) [] M 0 0 r
theorem am_pI_elim {st : List AV} {k : Int32 → List AV → Prop} (h : am_pI st k) : ∃ x s, st = vI x :: s ∧ k x s := by
  match st, h with
  | .inl x :: s, h => exact ⟨x, s, rfl, h⟩
theorem am_pR_elim {st : List AV} {k : Nat → List AV → Prop} (h : am_pR st k) : ∃ x s, st = vR x :: s ∧ k x s := by
  match st, h with
  | .inr (.inl x) :: s, h => exact ⟨x, s, rfl, h⟩
theorem am_pL_elim {st : List AV} {k : Int32 → List AV → Prop} (h : am_pL st k) : ∃ x s, st = vL x :: s ∧ k x s := by
  match st, h with
  | .inr (.inr (.inr (.inl x))) :: s, h => exact ⟨x, s, rfl, h⟩
theorem am_p1_elim {st : List AV} {k : AV → List AV → Prop} (h : am_p1 st k) : ∃ x s, st = x :: s ∧ am_cat x = 1 ∧ k x s := by
  match st, h with
  | x :: s, h => exact ⟨x, s, rfl, h.1, h.2⟩
