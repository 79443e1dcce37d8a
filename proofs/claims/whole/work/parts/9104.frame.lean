/-! WHAT A METHOD'S BODY STANDS ON -/
def am_isB (w : Cond) : Bool := match w with
  | .methodLinkNest .. => true
  | .castable .. => true
  | .declares _ => true
  | _ => false
theorem am_isB_warm {w : Cond} {s U : State} (hb : am_isB w = true) (hW : s.WarmedH U.vm) (h : va_Nw w s) : va_Nw w U := by
  cases w <;> first | (simp [am_isB] at hb; done) | exact va_Nw.warmM hW h | exact va_Nw.warmC hW h | exact va_Nw.warmD hW h
/-- a string constant: its object, its bytes -/
def am_Str (k a v : Nat) (A : Nat → Prop) (U : State) (H : Heap) : Prop := va_O "java/lang/String" a A U H ∧ va_OF "java/lang/String" "coder" "B" (.int 0) a A U H ∧ va_OF "java/lang/String" "value" "[B" (.ref v) a A U H ∧ va_T .byte v (am_SL k).length (fun j => .int ((am_SL k).getD j 0)) A U H
def am_Cx (D : va_G) (cs : am_CS) (sA aV : Nat → Nat) (B : Nat) (X : Nat × (Nat → Int32)) (A : Nat → Prop) (U : State) : Prop :=
  va_K D am_cl (am_tys cs) U ∧ (∀ k, k < am_sx.length → am_Str k (sA k) (aV k) A U U.heap) ∧ (∀ (k o i : Nat) (t : String), am_sx[k]? = some (o, i, t) → vk_R (am_cn o) i t (sA k) U) ∧
  vx_Zq Bundle.tN "UNASSIGNED_STACK" Bundle.steD A U U.heap ∧ vx_Zq Bundle.tN "SUPPRESSED_SENTINEL" Bundle.listD A U U.heap ∧ va_Z "java/lang/String" "COMPACT_STRINGS" "Z" (.int 1) A U U.heap ∧
  va_Zq "jdk/internal/util/Preconditions" "SIOOBE_FORMATTER" "Ljava/util/function/BiFunction;" A U U.heap ∧ va_X B X.1 X.2 U U.heap ∧ B < U.heap.size ∧ ¬ A B ∧ (∀ w ∈ lw_tbl, am_isB w = true → va_Nw w U)
/-- the same at a later heap of the same method, for a callee that may write less -/
theorem am_Cx_next {D : va_G} {cs : am_CS} {sA aV : Nat → Nat} {B : Nat} {X : Nat × (Nat → Int32)} {A A' : Nat → Prop} {s U : State} {locs : List Loc} (h : am_Cx D cs sA aV B X A s) (hS : va_S A s.heap U.heap locs) (hW : s.WarmedH U.vm) (hAA : ∀ q, A' q → A q) : am_Cx D cs sA aV B X A' U := by
  obtain ⟨h1, h2, h3, h4, h5, h6, h7, h8, h9, h10, h11⟩ := h
  have hq := hS.2.1
  have ha := hW.alike
  refine ⟨h1.moved ha, fun k hk => ?_, fun k o i t hk => (h3 k o i t hk).warm hW, ((h4.moved ha).kept hq).narrow hAA, ((h5.moved ha).kept hq).narrow hAA, ((h6.moved ha).kept hq).narrow hAA, ((h7.moved ha).kept hq).narrow hAA, (h8.moved ha).kept (hq B h9 h10), Nat.lt_of_lt_of_le h9 hS.1, fun q => h10 (hAA _ q), fun w hw hb => am_isB_warm hb hW (h11 w hw hb)⟩
  obtain ⟨g1, g2, g3, g4⟩ := h2 k hk
  exact ⟨((g1.moved ha).kept hq).narrow hAA, ((g2.moved ha).kept hq).narrow hAA, ((g3.moved ha).kept hq).narrow hAA, ((g4.moved ha).kept hq).narrow hAA⟩
/-- .. in the same state, for another frame's list -/
theorem am_Cx_same {D : va_G} {cs : am_CS} {sA aV : Nat → Nat} {B : Nat} {X : Nat × (Nat → Int32)} {A : Nat → Prop} {s U : State} (h : am_Cx D cs sA aV B X A s) (hh : U.heap = s.heap) (hv : U.vm = s.vm) : am_Cx D cs sA aV B X A U := by
  have hS : va_S A s.heap U.heap [] := by rw [hh]; exact va_S.rf
  exact am_Cx_next h hS (by rw [hv]; exact State.WarmedH.refl s) (fun _ h => h)
/-- the words, the context, the code of a body -/
def am_Fx (p : Program) (s : State) (m : MethodId) (args : Array Value) (c : Code) (cc : ByteArray) (nL o rt : Nat) (full : List am_CE) (D : va_G) (cs : am_CS) (sA aV : Nat → Nat) (B : Nat) (X : Nat × (Nat → Int32)) (A : Nat → Prop) : Prop :=
  p.tables.exec = Jvm.exec ∧ c.code = cc ∧ c.maxLocals = nL ∧ s.vm.findClass (am_cn o) = some m.cls ∧ (∀ w ∈ am_TG, w.before args s = true) ∧ am_Cx D cs sA aV B X A s ∧ (∀ q, s.heap.size ≤ q → A q) ∧ (∀ e ∈ full, decode cc e.1 = .ok (e.2.1, e.2.2.1 - e.1)) ∧ am_okL o nL rt full = true
/-- the machine stands at these rows, with these locals, this stack, this memory -/
def am_G (p : Program) (l : Launch) (e : Env) (R : Room) (s : State) (m : MethodId) (args : Array Value) (below : List Frame) (meth : Method) (c : Code) (Q : State → Prop) (nL : Nat) (full : List am_CE) (D : va_G) (cs : am_CS) (sA : Nat → Nat) (B : Nat) (A : Nat → Prop) : am_K := fun k lv st M kc ks =>
  ∀ (pc : Nat) (H : Heap) (locs : List Loc) (ls : Array Slot), (k ≠ [] → am_pc k = pc) → am_suf full k → am_Wd D cs A s M H locs → am_lo sA B ls nL lv → W p l e R s m args below meth c H locs kc ks Q (F0 m pc ls (st.map (am_v sA B)))
/-- places of the lays words, of each class -/
theorem am_lays_ok : ∀ ci, ci < 13 → ∀ k, k < am_n ci → am_lk ((am_lp ci).getD k 0) = some (u_lay (am_cn ci) (am_T ci) k) := by decide +kernel
theorem am_in_lays {ci : Nat} (hci : ci < 13) : ∀ w ∈ u_ws (am_cn ci) (am_T ci) (am_n ci), w ∈ am_TG := by
  intro w hw
  obtain ⟨k, hk, rfl⟩ := List.mem_map.mp hw
  refine am_tk (am_lays_ok ci hci k (List.mem_range.mp hk)) ?_
  unfold u_lay
  split <;> rfl
theorem am_cpF_ok : ∀ o, o < 17 → ∀ q ∈ am_cpF o, am_lk q.2.2.2 = some (.fieldLink (am_cn o) q.1 (am_cn q.2.1) (am_T q.2.1 q.2.2.1).2.1 (am_T q.2.1 q.2.2.1).2.2.1) := by decide +kernel
theorem am_cpI_ok : ∀ o, o < 17 → ∀ q ∈ am_cpI o, am_lk q.2.2 = some (.constant (am_cn o) q.1 q.2.1) := by decide +kernel
theorem am_lookup_any {β : Type} {l : List (Nat × β)} {j : Nat} {f : β → Bool} (h : (l.lookup j).any f = true) : ∃ b, (j, b) ∈ l ∧ f b = true := by
  induction l with
  | nil => simp at h
  | cons q l ih =>
    obtain ⟨a, b⟩ := q
    simp only [List.lookup] at h
    split at h
    · rename_i e
      have e2 : j = a := by simpa using e
      subst e2
      exact ⟨b, List.mem_cons_self, by simpa using h⟩
    · obtain ⟨b', h1, h2⟩ := ih h
      exact ⟨b', List.mem_cons_of_mem _ h1, h2⟩
theorem am_cp_lt {o j r1 r2 : Nat} (h : ((am_cpF o).lookup j).any (fun q => q.1 == r1 && q.2.1 == r2) = true) : o < 17 := by
  rcases Nat.lt_or_ge o 17 with h1 | h1
  · exact h1
  · obtain ⟨b, hb, -⟩ := am_lookup_any h
    have e : am_cpF o = [] := by
      unfold am_cpF
      rw [List.getD_eq_getElem?_getD, List.getElem?_eq_none (by simpa using h1)]
      rfl
    rw [e] at hb
    cases hb
