/-! STRING CONSTANTS: length() and charAt(i), over the JDK's own code -/
theorem am_goodIn {ws : List Cond} (h : ∀ w ∈ ws, w ∈ am_TG) : GoodIn am_TG ws := fun w hw => ⟨h w hw, good_of_word (List.mem_filter.mp (h w hw)).2⟩
theorem am_mem_cons {w : Cond} (h : w ∈ am_TG) : ∀ v ∈ w :: am_TG, v ∈ am_TG := fun v hv => (List.mem_cons.mp hv).elim (fun e => by rw [e]; exact h) id
theorem am_callB {R : Room} {s : State} {args : Array Value} {own : String} {idx : Nat} {y : MethodName} {bytes : ByteArray} {maxL : Nat} {ret : Option FieldType} {rm : Room} {mc ms : Nat} (n : Nat) (hts : ∀ w ∈ am_TG, w.before args s = true) (hcode : Cond.code y bytes maxL ret ∈ am_TG) (hini : Cond.initialized y.cls ∈ am_TG) (hl : Cond.methodLink own idx y ∈ am_TG) (hrc : rm.cells = mc) (hrs : rm.slots = ms)
    (hd : y.cls ≠ "java/lang/invoke/MethodHandle" ∧ y.cls ≠ "java/lang/invoke/VarHandle" ∧ (parseMethodDescriptor y.desc).map (fun d => d.parameters.length) = some n) (hR : rm.frames + 1 ≤ R.frames ∧ 8 + (maxL + 11) + rm.locals ≤ R.locals) : CallB R s args own idx y bytes maxL ret (Cond.code y bytes maxL ret :: am_TG) rm mc ms n :=
  callB_of n hts (am_goodIn (am_mem_cons hcode)) rfl hrc hrs (hts _ hini) (hts _ hl) hd hR
def F_str : String := "java/lang/String"
def y_cod : MethodName := ⟨"java/lang/String", "coder", "()B"⟩
def y_lat : MethodName := ⟨"java/lang/String", "isLatin1", "()Z"⟩
def y_ckS : MethodName := ⟨"java/lang/String", "checkIndex", "(II)V"⟩
def y_chL : MethodName := ⟨"java/lang/StringLatin1", "charAt", "([BI)C"⟩
def y_ckP : MethodName := ⟨"jdk/internal/util/Preconditions", "checkIndex", "(IILjava/util/function/BiFunction;)I"⟩
theorem wc_len : Cond.code y_len prog_25_method_54_code 1 (some .int) ∈ am_TG := am_tg (i := 767) (by decide +kernel) rfl
theorem wc_cod : Cond.code y_cod prog_25_method_152_code 1 (some .byte) ∈ am_TG := am_tg (i := 771) (by decide +kernel) rfl
theorem wc_chr : Cond.code y_chr prog_25_method_56_code 2 (some .char) ∈ am_TG := am_tg (i := 777) (by decide +kernel) rfl
theorem wc_lat : Cond.code y_lat prog_25_method_154_code 1 (some .boolean) ∈ am_TG := am_tg (i := 781) (by decide +kernel) rfl
theorem wc_chL : Cond.code y_chL prog_26_method_2_code 2 (some .char) ∈ am_TG := am_tg (i := 784) (by decide +kernel) rfl
theorem wc_ckS : Cond.code y_ckS prog_25_method_155_code 2 none ∈ am_TG := am_tg (i := 787) (by decide +kernel) rfl
theorem wc_ckP : Cond.code y_ckP prog_35_method_11_code 3 (some .int) ∈ am_TG := am_tg (i := 792) (by decide +kernel) rfl
theorem wi_str : Cond.initialized "java/lang/String" ∈ am_TG := am_tg (i := 168) (by decide +kernel) rfl
theorem wi_lat : Cond.initialized "java/lang/StringLatin1" ∈ am_TG := am_tg (i := 169) (by decide +kernel) rfl
theorem wi_pre : Cond.initialized "jdk/internal/util/Preconditions" ∈ am_TG := am_tg (i := 170) (by decide +kernel) rfl
abbrev am_no : Nat → Prop := fun _ => False
abbrev rm_j (k : Nat) : Room := { frames := k, cells := 0, slots := 0, locals := 40 * k }
abbrev pc_cod (a : Nat) : Array Value → State → Prop := va_Pc [.ref a] (fun U => va_OF "java/lang/String" "coder" "B" (.int 0) a am_no U U.heap ∧ va_Z "java/lang/String" "COMPACT_STRINGS" "Z" (.int 1) am_no U U.heap)
theorem c_cod (l : Launch) (a : Nat) : Met l y_cod (Cond.code y_cod prog_25_method_152_code 1 (some .byte) :: am_TG) (rm_j 1) (pc_cod a) (QcRead 0) 0 0 am_no := by
  refine Met.ofW (cc := prog_25_method_152_code) (maxL := 1) (ret := some .byte) (by decide) rfl ?_
  intro p e s m args below meth c s₁ B hml hv
  obtain ⟨rfl, h1, h2⟩ := hv
  have hx := B.exec
  have hb := B.bytes
  have hr := B.returns
  have hts0 := atoms_spec (ws := Cond.code y_cod prog_25_method_152_code 1 (some .byte) :: am_TG) B.pre
  have hts : ∀ w ∈ am_TG, w.before ([Value.ref a] : List Value).toArray s = true := fun w h => hts0 w (List.mem_cons_of_mem _ h)
  have hown : s.vm.findClass "java/lang/String" = some m.cls := findClass_of_methodNamed B.named
  have hlocks := B.notSynchronized
  have hS : va_S am_no s.heap s.heap [] := va_S.rf
  have hl := lv_entry ([.ref a]) (n := 1) (Nat.le_of_ble_eq_true rfl)
  rw [lg_entry_eq]
  generalize (lg_sl ([.ref a]) ++ List.replicate (1 - (lg_sl ([.ref a])).length) Slot.unset).toArray = ls at hl ⊢
  have hl : lv_has ls 1 [(0, .ref a)] := hl
  refine va_gets hx hb h2 hS hown (hts (.fieldLink "java/lang/String" 38 "java/lang/String" "COMPACT_STRINGS" "Z") (am_tg (i := 772) (by decide +kernel) rfl)) (fun x h => h) (by decide +kernel) ?_
  refine lv_if_eq (tgt := 13) hx hb (show decode prog_25_method_152_code 3 = .ok (.ifCond .eq 10, 3) by decide +kernel) (by decide) (fun h => absurd h (by decide)) (fun _ => ?_)
  refine lv_aload_n hx hb (show decode prog_25_method_152_code 6 = .ok (.aload_n 0, 1) by decide +kernel) rfl (lv_at hl 0 rfl) ?_
  refine vk_getf hx hb h1 hS hown (hts (.fieldLink "java/lang/String" 15 "java/lang/String" "coder" "B") (am_tg (i := 2430) (by decide +kernel) rfl)) (fun x h => h) (by decide +kernel) ?_
  refine lv_goto (tgt := 14) hx hb (show decode prog_25_method_152_code 10 = .ok (.goto 4, 3) by decide +kernel) (by decide) ?_
  exact W.zret hx hb hr rfl (fun t ht _ => ⟨rfl, ht⟩) (fun q hq => by cases hq) (by decide +kernel)
theorem c_lat (l : Launch) (a : Nat) : Met l y_lat (Cond.code y_lat prog_25_method_154_code 1 (some .boolean) :: am_TG) (rm_j 1) (pc_cod a) (QcRead 1) 0 0 am_no := by
  refine Met.ofW (cc := prog_25_method_154_code) (maxL := 1) (ret := some .boolean) (by decide) rfl ?_
  intro p e s m args below meth c s₁ B hml hv
  obtain ⟨rfl, h1, h2⟩ := hv
  have hx := B.exec
  have hb := B.bytes
  have hr := B.returns
  have hts0 := atoms_spec (ws := Cond.code y_lat prog_25_method_154_code 1 (some .boolean) :: am_TG) B.pre
  have hts : ∀ w ∈ am_TG, w.before ([Value.ref a] : List Value).toArray s = true := fun w h => hts0 w (List.mem_cons_of_mem _ h)
  have hown : s.vm.findClass "java/lang/String" = some m.cls := findClass_of_methodNamed B.named
  have hlocks := B.notSynchronized
  have hS : va_S am_no s.heap s.heap [] := va_S.rf
  have hl := lv_entry ([.ref a]) (n := 1) (Nat.le_of_ble_eq_true rfl)
  rw [lg_entry_eq]
  generalize (lg_sl ([.ref a]) ++ List.replicate (1 - (lg_sl ([.ref a])).length) Slot.unset).toArray = ls at hl ⊢
  have hl : lv_has ls 1 [(0, .ref a)] := hl
  refine va_gets hx hb h2 hS hown (hts (.fieldLink "java/lang/String" 38 "java/lang/String" "COMPACT_STRINGS" "Z") (am_tg (i := 772) (by decide +kernel) rfl)) (fun x h => h) (by decide +kernel) ?_
  refine lv_if_eq (tgt := 17) hx hb (show decode prog_25_method_154_code 3 = .ok (.ifCond .eq 14, 3) by decide +kernel) (by decide) (fun h => absurd h (by decide)) (fun _ => ?_)
  refine lv_aload_n hx hb (show decode prog_25_method_154_code 6 = .ok (.aload_n 0, 1) by decide +kernel) rfl (lv_at hl 0 rfl) ?_
  refine vk_getf hx hb h1 hS hown (hts (.fieldLink "java/lang/String" 15 "java/lang/String" "coder" "B") (am_tg (i := 2430) (by decide +kernel) rfl)) (fun x h => h) (by decide +kernel) ?_
  refine lv_if_ne (tgt := 17) hx hb (show decode prog_25_method_154_code 10 = .ok (.ifCond .ne 7, 3) by decide +kernel) (by decide) (fun h => absurd rfl h) (fun _ => ?_)
  refine lv_iconst (v := 1) hx hb (show decode prog_25_method_154_code 13 = .ok (.iconst 1, 1) by decide +kernel) (by decide) ?_
  refine lv_goto (tgt := 18) hx hb (show decode prog_25_method_154_code 14 = .ok (.goto 4, 3) by decide +kernel) (by decide) ?_
  exact W.zret hx hb hr rfl (fun t ht _ => ⟨rfl, ht⟩) (fun q hq => by cases hq) (by decide +kernel)
theorem am_blind (a : Nat) : FrameBlind (pc_cod a) := fun b U g mk q => by
  obtain ⟨q1, q2, q3⟩ := q
  exact ⟨q1, va_OF.moved (u := U) (U := U.calling g mk b) (Vm.Alike.refl U.vm) q2, va_Z.moved (u := U) (U := U.calling g mk b) (Vm.Alike.refl U.vm) q3⟩
abbrev pc_len (k a v : Nat) : Array Value → State → Prop := va_Pc [.ref a] (fun U => am_Str k a v am_no U U.heap ∧ va_Z "java/lang/String" "COMPACT_STRINGS" "Z" (.int 1) am_no U U.heap)
theorem am_shr0 (x : Int32) : x >>> ((0 : Int32) &&& 31) = x := by
  have h : ((0 : Int32) &&& 31) = 0 := by decide
  rw [h]
  simp
theorem c_len (l : Launch) (k a v : Nat) : Met l y_len (Cond.code y_len prog_25_method_54_code 1 (some .int) :: am_TG) (rm_j 2) (pc_len k a v) (QcRead (nI (am_SL k).length)) 0 0 am_no := by
  refine Met.ofW (cc := prog_25_method_54_code) (maxL := 1) (ret := some .int) (by decide) rfl ?_
  intro p e s m args below meth c s₁ B hml hv
  obtain ⟨rfl, ⟨h0, h1, h2, h3⟩, hz⟩ := hv
  have hx := B.exec
  have hb := B.bytes
  have hr := B.returns
  have hts0 := atoms_spec (ws := Cond.code y_len prog_25_method_54_code 1 (some .int) :: am_TG) B.pre
  have hts : ∀ w ∈ am_TG, w.before ([Value.ref a] : List Value).toArray s = true := fun w h => hts0 w (List.mem_cons_of_mem _ h)
  have hown : s.vm.findClass "java/lang/String" = some m.cls := findClass_of_methodNamed B.named
  have hlocks := B.notSynchronized
  have hS : va_S am_no s.heap s.heap [] := va_S.rf
  have hl := lv_entry ([.ref a]) (n := 1) (Nat.le_of_ble_eq_true rfl)
  rw [lg_entry_eq]
  generalize (lg_sl ([.ref a]) ++ List.replicate (1 - (lg_sl ([.ref a])).length) Slot.unset).toArray = ls at hl ⊢
  have hl : lv_has ls 1 [(0, .ref a)] := hl
  refine lv_aload_n hx hb (show decode prog_25_method_54_code 0 = .ok (.aload_n 0, 1) by decide +kernel) rfl (lv_at hl 0 rfl) ?_
  refine vk_getf hx hb h2 hS hown (hts (.fieldLink "java/lang/String" 9 "java/lang/String" "value" "[B") (am_tg (i := 2429) (by decide +kernel) rfl)) (fun x h => h) (by decide +kernel) ?_
  refine va_tlen hx hb h3 hS rfl (show decode prog_25_method_54_code 4 = .ok (.arraylength, 1) by decide +kernel) ?_
  refine lv_aload_n hx hb (show decode prog_25_method_54_code 5 = .ok (.aload_n 0, 1) by decide +kernel) rfl (lv_at hl 0 rfl) ?_
  refine W.callR (W.runV (As := []) (rest := [.int (Int32.ofNat (am_SL k).length)]) (C := "java/lang/String") (n := 0) ⟨hx, hb, hml, hown, hts⟩ (c_cod l a) ⟨am_callB 0 hts wc_cod wi_str (am_tg (i := 768) (by decide +kernel) rfl) rfl rfl (by decide +kernel) ⟨Nat.le_of_ble_eq_true rfl, Nat.le_of_ble_eq_true rfl⟩, hts _ (am_tg (i := 769) (by decide +kernel) rfl), hts _ (am_tg (i := 770) (by decide +kernel) rfl)⟩
    ⟨am_blind a, (by obtain ⟨cell, g1, g2, g3, -⟩ := h0; exact ⟨cell, g1, g2, g3⟩), fun U hU hW => ⟨rfl, by rw [hU]; exact h1.moved hW.alike, by rw [hU]; exact hz.moved hW.alike⟩⟩ rfl rfl hl.1 rfl (by simp [Value.category]) (show decode prog_25_method_54_code 6 = .ok (.invokevirtual 335, 3) by decide +kernel) ⟨Nat.le_refl _, Nat.le_refl _⟩) ?_
  refine lv_ishr hx hb (show decode prog_25_method_54_code 9 = .ok (.ishr, 1) by decide +kernel) ?_
  rw [am_shr0]
  exact W.iret hx hb hr (fun t ht _ => ⟨rfl, ht⟩) (fun q hq => by cases hq) (show decode prog_25_method_54_code 10 = .ok (.ireturn, 1) by decide +kernel)
abbrev pc_ckP (i n : Int32) (z : Option Nat) : Array Value → State → Prop := va_Pc [.int i, .int n, va_rf z] (fun _ => ¬ i < 0 ∧ i < n)
theorem c_ckP (l : Launch) (i n : Int32) (z : Option Nat) : Met l y_ckP (Cond.code y_ckP prog_35_method_11_code 3 (some .int) :: am_TG) (rm_j 1) (pc_ckP i n z) (QcRead i) 0 0 am_no := by
  cases z with
  | none =>
    refine Met.ofW (cc := prog_35_method_11_code) (maxL := 3) (ret := some .int) (by decide) rfl ?_
    intro p e s m args below meth c s₁ B hml hv
    obtain ⟨rfl, h1, h2⟩ := hv
    have hx := B.exec
    have hb := B.bytes
    have hr := B.returns
    have hts0 := atoms_spec (ws := Cond.code y_ckP prog_35_method_11_code 3 (some .int) :: am_TG) B.pre
    have hts : ∀ w ∈ am_TG, w.before ([.int i, .int n, va_rf none] : List Value).toArray s = true := fun w h => hts0 w (List.mem_cons_of_mem _ h)
    have hown : s.vm.findClass "jdk/internal/util/Preconditions" = some m.cls := findClass_of_methodNamed B.named
    have hlocks := B.notSynchronized
    have hS : va_S am_no s.heap s.heap [] := va_S.rf
    have hl := lv_entry ([.int i, .int n, va_rf none]) (n := 3) (Nat.le_of_ble_eq_true rfl)
    rw [lg_entry_eq]
    generalize (lg_sl ([.int i, .int n, va_rf none]) ++ List.replicate (3 - (lg_sl ([.int i, .int n, va_rf none])).length) Slot.unset).toArray = ls at hl ⊢
    have hl : lv_has ls 3 [(0, .int i), (1, .int n), (2, va_rf none)] := hl
    refine lv_iload_n hx hb (show decode prog_35_method_11_code 0 = .ok (.iload_n 0, 1) by decide +kernel) rfl (lv_at hl 0 rfl) ?_
    refine lv_if_lt (tgt := 9) hx hb (show decode prog_35_method_11_code 1 = .ok (.ifCond .lt 8, 3) by decide +kernel) (by decide) (fun h => absurd h h1) (fun _ => ?_)
    refine lv_iload_n hx hb (show decode prog_35_method_11_code 4 = .ok (.iload_n 0, 1) by decide +kernel) rfl (lv_at hl 0 rfl) ?_
    refine lv_iload_n hx hb (show decode prog_35_method_11_code 5 = .ok (.iload_n 1, 1) by decide +kernel) rfl (lv_at hl 1 rfl) ?_
    refine lv_icmp_lt (tgt := 16) hx hb (show decode prog_35_method_11_code 6 = .ok (.if_icmp .lt 10, 3) by decide +kernel) (by decide) (fun _ => ?_) (fun h => absurd h2 h)
    refine lv_iload_n hx hb (show decode prog_35_method_11_code 16 = .ok (.iload_n 0, 1) by decide +kernel) rfl (lv_at hl 0 rfl) ?_
    exact W.iret hx hb hr (fun t ht _ => ⟨rfl, ht⟩) (fun q hq => by cases hq) (show decode prog_35_method_11_code 17 = .ok (.ireturn, 1) by decide +kernel)
  | some z =>
    refine Met.ofW (cc := prog_35_method_11_code) (maxL := 3) (ret := some .int) (by decide) rfl ?_
    intro p e s m args below meth c s₁ B hml hv
    obtain ⟨rfl, h1, h2⟩ := hv
    have hx := B.exec
    have hb := B.bytes
    have hr := B.returns
    have hts0 := atoms_spec (ws := Cond.code y_ckP prog_35_method_11_code 3 (some .int) :: am_TG) B.pre
    have hts : ∀ w ∈ am_TG, w.before ([.int i, .int n, va_rf (some z)] : List Value).toArray s = true := fun w h => hts0 w (List.mem_cons_of_mem _ h)
    have hown : s.vm.findClass "jdk/internal/util/Preconditions" = some m.cls := findClass_of_methodNamed B.named
    have hlocks := B.notSynchronized
    have hS : va_S am_no s.heap s.heap [] := va_S.rf
    have hl := lv_entry ([.int i, .int n, va_rf (some z)]) (n := 3) (Nat.le_of_ble_eq_true rfl)
    rw [lg_entry_eq]
    generalize (lg_sl ([.int i, .int n, va_rf (some z)]) ++ List.replicate (3 - (lg_sl ([.int i, .int n, va_rf (some z)])).length) Slot.unset).toArray = ls at hl ⊢
    have hl : lv_has ls 3 [(0, .int i), (1, .int n), (2, va_rf (some z))] := hl
    refine lv_iload_n hx hb (show decode prog_35_method_11_code 0 = .ok (.iload_n 0, 1) by decide +kernel) rfl (lv_at hl 0 rfl) ?_
    refine lv_if_lt (tgt := 9) hx hb (show decode prog_35_method_11_code 1 = .ok (.ifCond .lt 8, 3) by decide +kernel) (by decide) (fun h => absurd h h1) (fun _ => ?_)
    refine lv_iload_n hx hb (show decode prog_35_method_11_code 4 = .ok (.iload_n 0, 1) by decide +kernel) rfl (lv_at hl 0 rfl) ?_
    refine lv_iload_n hx hb (show decode prog_35_method_11_code 5 = .ok (.iload_n 1, 1) by decide +kernel) rfl (lv_at hl 1 rfl) ?_
    refine lv_icmp_lt (tgt := 16) hx hb (show decode prog_35_method_11_code 6 = .ok (.if_icmp .lt 10, 3) by decide +kernel) (by decide) (fun _ => ?_) (fun h => absurd h2 h)
    refine lv_iload_n hx hb (show decode prog_35_method_11_code 16 = .ok (.iload_n 0, 1) by decide +kernel) rfl (lv_at hl 0 rfl) ?_
    exact W.iret hx hb hr (fun t ht _ => ⟨rfl, ht⟩) (fun q hq => by cases hq) (show decode prog_35_method_11_code 17 = .ok (.ireturn, 1) by decide +kernel)
abbrev pc_ckS (i n : Int32) : Array Value → State → Prop := va_Pc [.int i, .int n] (fun U => (¬ i < 0 ∧ i < n) ∧ va_Zq "jdk/internal/util/Preconditions" "SIOOBE_FORMATTER" "Ljava/util/function/BiFunction;" am_no U U.heap)
abbrev qc_v : Array Value → State → Outcome → State → Prop := fun _ st o t => o = .returned none ∧ t.heap = st.heap
theorem c_ckS (l : Launch) (i n : Int32) : Met l y_ckS (Cond.code y_ckS prog_25_method_155_code 2 none :: am_TG) (rm_j 2) (pc_ckS i n) qc_v 0 0 am_no := by
  refine Met.ofW (cc := prog_25_method_155_code) (maxL := 2) (ret := none) (by decide) rfl ?_
  intro p e s m args below meth c s₁ B hml hv
  obtain ⟨rfl, h12, h3⟩ := hv
  have hx := B.exec
  have hb := B.bytes
  have hr := B.returns
  have hts0 := atoms_spec (ws := Cond.code y_ckS prog_25_method_155_code 2 none :: am_TG) B.pre
  have hts : ∀ w ∈ am_TG, w.before ([.int i, .int n] : List Value).toArray s = true := fun w h => hts0 w (List.mem_cons_of_mem _ h)
  have hown : s.vm.findClass "java/lang/String" = some m.cls := findClass_of_methodNamed B.named
  have hlocks := B.notSynchronized
  have hS : va_S am_no s.heap s.heap [] := va_S.rf
  have hl := lv_entry ([.int i, .int n]) (n := 2) (Nat.le_of_ble_eq_true rfl)
  rw [lg_entry_eq]
  generalize (lg_sl ([.int i, .int n]) ++ List.replicate (2 - (lg_sl ([.int i, .int n])).length) Slot.unset).toArray = ls at hl ⊢
  have hl : lv_has ls 2 [(0, .int i), (1, .int n)] := hl
  refine lv_iload_n hx hb (show decode prog_25_method_155_code 0 = .ok (.iload_n 0, 1) by decide +kernel) rfl (lv_at hl 0 rfl) ?_
  refine lv_iload_n hx hb (show decode prog_25_method_155_code 1 = .ok (.iload_n 1, 1) by decide +kernel) rfl (lv_at hl 1 rfl) ?_
  obtain ⟨z, hz⟩ : ∃ z : Option Nat, va_Z "jdk/internal/util/Preconditions" "SIOOBE_FORMATTER" "Ljava/util/function/BiFunction;" (va_rf z) am_no s s.heap := by
    rcases h3 with h | ⟨t, h⟩
    · exact ⟨none, h⟩
    · exact ⟨some t, h⟩
  refine va_gets hx hb hz hS hown (hts (.fieldLink "java/lang/String" 1053 "jdk/internal/util/Preconditions" "SIOOBE_FORMATTER" "Ljava/util/function/BiFunction;") (am_tg (i := 788) (by decide +kernel) rfl)) (fun x h => h) (show decode prog_25_method_155_code 2 = .ok (.getstatic 1053, 3) by decide +kernel) ?_
  refine W.callR (r := i) (W.runS (As := [.int i, .int n, va_rf z]) (rest := []) (n := 3) ⟨hx, hb, hml, hown, hts⟩ (c_ckP l i n z) ⟨am_callB 3 hts wc_ckP wi_pre (am_tg (i := 790) (by decide +kernel) rfl) rfl rfl (by decide +kernel) ⟨Nat.le_of_ble_eq_true rfl, Nat.le_of_ble_eq_true rfl⟩, hts _ (am_tg (i := 791) (by decide +kernel) rfl)⟩
    ⟨fun b U g mk q => q, fun U hU hW => ⟨rfl, h12⟩⟩ rfl rfl hl.1 rfl (by simp) (show decode prog_25_method_155_code 5 = .ok (.invokestatic 1059, 3) by decide +kernel) ⟨Nat.le_refl _, Nat.le_refl _⟩) ?_
  refine lv_pop hx hb (show decode prog_25_method_155_code 8 = .ok (.pop, 1) by decide +kernel) rfl ?_
  exact W.vret hx hb hr (fun t ht _ => ⟨rfl, ht⟩) (fun q hq => by cases hq) (show decode prog_25_method_155_code 9 = .ok (.return_, 1) by decide +kernel)
theorem am_bytes : ∀ k, k < am_sx.length → ((am_SL k).length < 2 ^ 31 ∧ ∀ b ∈ am_SL k, ((b &&& 255).toUInt32 % 65536).toInt32 = b ∧ narrow .char (.int b) = .int b) := by decide +kernel
theorem am_byte {k : Nat} (hk : k < am_sx.length) {i : Int32} (hi : vp_in i (am_SL k).length) : ((((am_SL k).getD i.toNatClampNeg 0) &&& 255).toUInt32 % 65536).toInt32 = (am_SL k).getD i.toNatClampNeg 0 ∧ narrow .char (.int ((am_SL k).getD i.toNatClampNeg 0)) = .int ((am_SL k).getD i.toNatClampNeg 0) := by
  have hlt : i.toNatClampNeg < (am_SL k).length := Nat.not_le.mp fun q => hi (Or.inr q)
  refine (am_bytes k hk).2 _ ?_
  rw [List.getD_eq_getElem?_getD, List.getElem?_eq_getElem hlt]
  exact List.getElem_mem hlt
theorem am_in_lt {i : Int32} {n : Nat} (hn : n < 2 ^ 31) (hi : vp_in i n) : ¬ i < 0 ∧ i < Int32.ofNat n := by
  obtain ⟨j, hj, rfl⟩ := vp_in_of hi hn
  exact ⟨nI_pos (by omega), nI_lt hj hn⟩
abbrev pc_chL (k v : Nat) (i : Int32) : Array Value → State → Prop := va_Pc [.ref v, .int i] (fun U => va_T .byte v (am_SL k).length (fun j => .int ((am_SL k).getD j 0)) am_no U U.heap ∧ va_Zq "jdk/internal/util/Preconditions" "SIOOBE_FORMATTER" "Ljava/util/function/BiFunction;" am_no U U.heap)
theorem c_chL (l : Launch) (k v : Nat) (i : Int32) (hk : k < am_sx.length) (hi : vp_in i (am_SL k).length) : Met l y_chL (Cond.code y_chL prog_26_method_2_code 2 (some .char) :: am_TG) (rm_j 3) (pc_chL k v i) (QcRead ((am_SL k).getD i.toNatClampNeg 0)) 0 0 am_no := by
  refine Met.ofW (cc := prog_26_method_2_code) (maxL := 2) (ret := some .char) (by decide) rfl ?_
  intro p e s m args below meth c s₁ B hml hv
  obtain ⟨rfl, h1, h3⟩ := hv
  have hx := B.exec
  have hb := B.bytes
  have hr := B.returns
  have hts0 := atoms_spec (ws := Cond.code y_chL prog_26_method_2_code 2 (some .char) :: am_TG) B.pre
  have hts : ∀ w ∈ am_TG, w.before ([.ref v, .int i] : List Value).toArray s = true := fun w h => hts0 w (List.mem_cons_of_mem _ h)
  have hown : s.vm.findClass "java/lang/StringLatin1" = some m.cls := findClass_of_methodNamed B.named
  have hlocks := B.notSynchronized
  have hS : va_S am_no s.heap s.heap [] := va_S.rf
  have hl := lv_entry ([.ref v, .int i]) (n := 2) (Nat.le_of_ble_eq_true rfl)
  rw [lg_entry_eq]
  generalize (lg_sl ([.ref v, .int i]) ++ List.replicate (2 - (lg_sl ([.ref v, .int i])).length) Slot.unset).toArray = ls at hl ⊢
  have hl : lv_has ls 2 [(0, .ref v), (1, .int i)] := hl
  have h12 := am_in_lt (am_bytes k hk).1 hi
  obtain ⟨e1, e2⟩ := am_byte hk hi
  refine lv_iload_n hx hb (show decode prog_26_method_2_code 0 = .ok (.iload_n 1, 1) by decide +kernel) rfl (lv_at hl 1 rfl) ?_
  refine lv_aload_n hx hb (show decode prog_26_method_2_code 1 = .ok (.aload_n 0, 1) by decide +kernel) rfl (lv_at hl 0 rfl) ?_
  refine va_tlen hx hb h1 hS rfl (show decode prog_26_method_2_code 2 = .ok (.arraylength, 1) by decide +kernel) ?_
  refine W.callX (W.runS (As := [.int i, .int (Int32.ofNat (am_SL k).length)]) (rest := []) (n := 2) ⟨hx, hb, hml, hown, hts⟩ (c_ckS l i (Int32.ofNat (am_SL k).length)) ⟨am_callB 2 hts wc_ckS wi_str (am_tg (i := 785) (by decide +kernel) rfl) rfl rfl (by decide +kernel) ⟨Nat.le_of_ble_eq_true rfl, Nat.le_of_ble_eq_true rfl⟩, hts _ (am_tg (i := 786) (by decide +kernel) rfl)⟩
    ⟨fun b U g mk q => ⟨q.1, q.2.1, va_Zq.moved (u := U) (U := U.calling g mk b) (Vm.Alike.refl U.vm) q.2.2⟩, fun U hU hW => ⟨rfl, h12, by rw [hU]; exact h3.moved hW.alike⟩⟩ rfl rfl hl.1 rfl (by simp) (show decode prog_26_method_2_code 3 = .ok (.invokestatic 9, 3) by decide +kernel) ⟨Nat.le_refl _, Nat.le_refl _⟩) (fun x hx => hx.elim) ?_
  rintro v0 st0 t hst0 ⟨hv0, hh⟩
  cases hv0
  rw [hh, hst0]
  refine lv_aload_n hx hb (show decode prog_26_method_2_code 6 = .ok (.aload_n 0, 1) by decide +kernel) rfl (lv_at hl 0 rfl) ?_
  refine lv_iload_n hx hb (show decode prog_26_method_2_code 7 = .ok (.iload_n 1, 1) by decide +kernel) rfl (lv_at hl 1 rfl) ?_
  refine va_tb hx hb h1 hS hi rfl (show decode prog_26_method_2_code 8 = .ok (.baload, 1) by decide +kernel) ?_
  refine lv_sipush (v := 255) hx hb (show decode prog_26_method_2_code 9 = .ok (.sipush 255, 3) by decide +kernel) (by decide) ?_
  refine lv_iand hx hb (show decode prog_26_method_2_code 12 = .ok (.iand, 1) by decide +kernel) ?_
  refine lv_i2c hx hb (show decode prog_26_method_2_code 13 = .ok (.i2c, 1) by decide +kernel) e1 ?_
  exact W.zret hx hb hr e2 (fun t ht _ => ⟨rfl, ht⟩) (fun q hq => by cases hq) (show decode prog_26_method_2_code 14 = .ok (.ireturn, 1) by decide +kernel)
abbrev pc_chr (k a v : Nat) (i : Int32) : Array Value → State → Prop := va_Pc [.ref a, .int i] (fun U => am_Str k a v am_no U U.heap ∧ va_Z "java/lang/String" "COMPACT_STRINGS" "Z" (.int 1) am_no U U.heap ∧ va_Zq "jdk/internal/util/Preconditions" "SIOOBE_FORMATTER" "Ljava/util/function/BiFunction;" am_no U U.heap)
theorem c_chr (l : Launch) (k a v : Nat) (i : Int32) (hk : k < am_sx.length) (hi : vp_in i (am_SL k).length) : Met l y_chr (Cond.code y_chr prog_25_method_56_code 2 (some .char) :: am_TG) (rm_j 4) (pc_chr k a v i) (QcRead ((am_SL k).getD i.toNatClampNeg 0)) 0 0 am_no := by
  refine Met.ofW (cc := prog_25_method_56_code) (maxL := 2) (ret := some .char) (by decide) rfl ?_
  intro p e s m args below meth c s₁ B hml hv
  obtain ⟨rfl, ⟨h0, h1, h2, h3⟩, hz, hq⟩ := hv
  have hx := B.exec
  have hb := B.bytes
  have hr := B.returns
  have hts0 := atoms_spec (ws := Cond.code y_chr prog_25_method_56_code 2 (some .char) :: am_TG) B.pre
  have hts : ∀ w ∈ am_TG, w.before ([.ref a, .int i] : List Value).toArray s = true := fun w h => hts0 w (List.mem_cons_of_mem _ h)
  have hown : s.vm.findClass "java/lang/String" = some m.cls := findClass_of_methodNamed B.named
  have hlocks := B.notSynchronized
  have hS : va_S am_no s.heap s.heap [] := va_S.rf
  have hl := lv_entry ([.ref a, .int i]) (n := 2) (Nat.le_of_ble_eq_true rfl)
  rw [lg_entry_eq]
  generalize (lg_sl ([.ref a, .int i]) ++ List.replicate (2 - (lg_sl ([.ref a, .int i])).length) Slot.unset).toArray = ls at hl ⊢
  have hl : lv_has ls 2 [(0, .ref a), (1, .int i)] := hl
  obtain ⟨-, e2⟩ := am_byte hk hi
  refine lv_aload_n hx hb (show decode prog_25_method_56_code 0 = .ok (.aload_n 0, 1) by decide +kernel) rfl (lv_at hl 0 rfl) ?_
  refine W.callR (r := 1) (W.runV (As := []) (rest := []) (C := "java/lang/String") (n := 0) ⟨hx, hb, hml, hown, hts⟩ (c_lat l a) ⟨am_callB 0 hts wc_lat wi_str (am_tg (i := 778) (by decide +kernel) rfl) rfl rfl (by decide +kernel) ⟨Nat.le_of_ble_eq_true rfl, Nat.le_of_ble_eq_true rfl⟩, hts _ (am_tg (i := 779) (by decide +kernel) rfl), hts _ (am_tg (i := 780) (by decide +kernel) rfl)⟩
    ⟨am_blind a, (by obtain ⟨cell, g1, g2, g3, -⟩ := h0; exact ⟨cell, g1, g2, g3⟩), fun U hU hW => ⟨rfl, by rw [hU]; exact h1.moved hW.alike, by rw [hU]; exact hz.moved hW.alike⟩⟩ rfl rfl hl.1 rfl (by simp) (show decode prog_25_method_56_code 1 = .ok (.invokevirtual 492, 3) by decide +kernel) ⟨Nat.le_refl _, Nat.le_refl _⟩) ?_
  refine lv_if_eq (tgt := 16) hx hb (show decode prog_25_method_56_code 4 = .ok (.ifCond .eq 12, 3) by decide +kernel) rfl (fun h => absurd h (by decide)) (fun _ => ?_)
  refine lv_aload_n hx hb (show decode prog_25_method_56_code 7 = .ok (.aload_n 0, 1) by decide +kernel) rfl (lv_at hl 0 rfl) ?_
  refine vk_getf hx hb h2 hS hown (hts (.fieldLink "java/lang/String" 9 "java/lang/String" "value" "[B") (am_tg (i := 2429) (by decide +kernel) rfl)) (fun x h => h) (show decode prog_25_method_56_code 8 = .ok (.getfield 9, 3) by decide +kernel) ?_
  refine lv_iload_n hx hb (show decode prog_25_method_56_code 11 = .ok (.iload_n 1, 1) by decide +kernel) rfl (lv_at hl 1 rfl) ?_
  refine W.callR (r := (am_SL k).getD i.toNatClampNeg 0) (W.runS (As := [.ref v, .int i]) (rest := []) (n := 2) ⟨hx, hb, hml, hown, hts⟩ (c_chL l k v i hk hi) ⟨am_callB 2 hts wc_chL wi_lat (am_tg (i := 782) (by decide +kernel) rfl) rfl rfl (by decide +kernel) ⟨Nat.le_of_ble_eq_true rfl, Nat.le_of_ble_eq_true rfl⟩, hts _ (am_tg (i := 783) (by decide +kernel) rfl)⟩
    ⟨fun b U g mk q => ⟨q.1, va_T.moved (u := U) (U := U.calling g mk b) (Vm.Alike.refl U.vm) q.2.1, va_Zq.moved (u := U) (U := U.calling g mk b) (Vm.Alike.refl U.vm) q.2.2⟩, fun U hU hW => ⟨rfl, by rw [hU]; exact h3.moved hW.alike, by rw [hU]; exact hq.moved hW.alike⟩⟩ rfl rfl hl.1 rfl (by simp) (show decode prog_25_method_56_code 12 = .ok (.invokestatic 495, 3) by decide +kernel) ⟨Nat.le_refl _, Nat.le_refl _⟩) ?_
  exact W.zret hx hb hr e2 (fun t ht _ => ⟨rfl, ht⟩) (fun q hq => by cases hq) (show decode prog_25_method_56_code 15 = .ok (.ireturn, 1) by decide +kernel)
