/-! WHAT THE GIVEN START HOLDS (printed by wip/whole/gen9131.py) -/
def gv_L : List Cond := flatC (Jvm.Cond.and given_1 narrow_1)
def gv_pos (k : Nat) : Nat := [96, 101, 122, 133, 143, 151, 159, 167, 173, 181, 188, 196, 205, 213, 222, 232, 244, 266, 273, 281, 289, 295, 302, 307, 316, 326, 337, 349, 356, 364, 376, 385, 394, 403, 408, 413, 420, 426, 458, 492, 516, 546, 583, 610, 635, 651, 680, 707, 730, 757, 766, 779, 791, 800, 809, 818, 825, 834, 842, 851, 861, 874, 885, 896, 904, 913, 922, 929, 937, 947, 955, 964, 977, 987, 997, 1007, 1015].getD k 0
def gv_tm (k : Nat) : Term := Term.string (am_cn (am_sx.getD k (0, 0, "")).1) (am_sx.getD k (0, 0, "")).2.1
def gv_want (k : Nat) : List Cond := [.exactly (gv_tm k) "java/lang/String", .eq (.field (gv_tm k) "java/lang/String" "coder" "B") (.int 0), .arrayOf (.field (gv_tm k) "java/lang/String" "value" "[B") .byte, .eq (.length (.field (gv_tm k) "java/lang/String" "value" "[B")) (.int (Int32.ofNat (am_SL k).length))] ++ (List.range (am_SL k).length).map (fun j => .eq (.elem (.field (gv_tm k) "java/lang/String" "value" "[B") (.int (Int32.ofNat j))) (.int ((am_SL k).getD j 0)))
theorem gv_str : ∀ k, k < 77 → (gv_L.drop (gv_pos k)).take (4 + (am_SL k).length) = gv_want k := by decide +kernel
theorem gv_len : ∀ k, k < 77 → (am_SL k).length < 1000 := by decide +kernel
def gv_nc (a b : Nat) : Nat := ([[0, 41, 58, 75, 92], [24, 0, 59, 76, 93], [25, 42, 0, 77, 94], [26, 43, 60, 0, 95], [27, 44, 61, 78, 0]].getD a []).getD b 0
theorem gv_ncok : ∀ a, a < 5 → ∀ b, b < 5 → a ≠ b → gv_L[gv_nc a b]? = some (.not (.castable (am_en a) (am_en b))) := by decide +kernel
theorem gv_sts : gv_L[4]? = some (.eq (.static "java/lang/String" "COMPACT_STRINGS" "Z") (.int 1)) ∧ gv_L[5]? = some (.isRef (.static "jdk/internal/util/Preconditions" "SIOOBE_FORMATTER" "Ljava/util/function/BiFunction;")) ∧ gv_L[9]? = some (.isRef (.static Bundle.tN "UNASSIGNED_STACK" Bundle.steD)) ∧ gv_L[10]? = some (.isRef (.static Bundle.tN "SUPPRESSED_SENTINEL" Bundle.listD)) := by decide +kernel
theorem gv_lay : am_lk 3141 = some (.laysStatic "java/lang/String" "COMPACT_STRINGS" "Z") ∧ am_lk 3157 = some (.laysStatic "jdk/internal/util/Preconditions" "SIOOBE_FORMATTER" "Ljava/util/function/BiFunction;") ∧ am_lk 3211 = some (.laysStatic Bundle.tN "UNASSIGNED_STACK" Bundle.steD) ∧ am_lk 3213 = some (.laysStatic Bundle.tN "SUPPRESSED_SENTINEL" Bundle.listD) ∧ am_lk 1016 = some (.initialized "java/lang/String") ∧ am_lk 1018 = some (.initialized "jdk/internal/util/Preconditions") ∧ am_lk 1020 = some (.initialized Bundle.tN) := by decide +kernel
def gv_sr (k : Nat) : Nat := [3123, 3227, 4017, 4049, 4058, 4063, 4072, 4077, 4079, 4080, 4081, 4086, 4091, 4096, 4097, 4098, 4120, 4148, 4150, 4151, 4156, 4165, 4174, 4176, 4177, 4187, 4188, 4189, 4190, 4191, 4192, 4193, 4194, 4195, 4196, 4197, 4198, 4229, 5001, 5025, 5060, 5077, 5148, 5170, 5191, 5192, 5205, 6185, 7020, 8064, 8087, 8103, 8120, 8129, 8138, 8147, 8152, 8153, 8154, 8159, 8164, 8181, 8182, 8187, 8188, 8189, 8190, 8207, 8212, 8221, 8222, 8223, 8224, 8225, 8226, 8227, 8228].getD k 0
theorem gv_srok : ∀ k, k < 77 → am_lk (gv_sr k) = some (.stringRef (am_cn (am_sx.getD k (0, 0, "")).1) (am_sx.getD k (0, 0, "")).2.1 (am_sx.getD k (0, 0, "")).2.2) := by decide +kernel
theorem ex_fun {α : Type} {N : Nat} {P : Nat → α → Prop} (d : α) (h : ∀ k, k < N → ∃ a, P k a) : ∃ f : Nat → α, ∀ k, k < N → P k (f k) := by
  have h2 : ∀ k : Nat, ∃ a : α, k < N → P k a := by
    intro k
    by_cases hk : k < N
    · obtain ⟨a, ha⟩ := h k hk
      exact ⟨a, fun _ => ha⟩
    · exact ⟨d, fun q => absurd q hk⟩
  obtain ⟨f, hf⟩ := Classical.axiomOfChoice h2
  exact ⟨f, hf⟩
section GV
variable {s : State} {b : Nat}
theorem gv_at (hgv : (Jvm.Cond.and given_1 narrow_1).before #[Value.ref b] s = true) {i : Nat} {w : Cond} (h : gv_L[i]? = some w) : w.before #[Value.ref b] s = true := flat_of_before _ hgv w (List.mem_of_getElem? h)
theorem gv_sub (hgv : (Jvm.Cond.and given_1 narrow_1).before #[Value.ref b] s = true) {k : Nat} (hk : k < 77) {w : Cond} (h : w ∈ gv_want k) : w.before #[Value.ref b] s = true := by
  rw [← gv_str k hk] at h
  exact flat_of_before _ hgv w (List.mem_of_mem_drop (List.mem_of_mem_take h))
theorem gv_NC (hgv : (Jvm.Cond.and given_1 narrow_1).before #[Value.ref b] s = true) : am_NC s := fun a ha c hc hne => va_Nc.of (gv_at hgv (gv_ncok a ha c hc hne))
theorem gv_one (hgv : (Jvm.Cond.and given_1 narrow_1).before #[Value.ref b] s = true) {A : Nat → Prop} (hA : ∀ a : Nat, a < s.heap.size → ¬ A a) {k : Nat} (hk : k < 77) : ∃ q : Nat × Nat, am_Str k q.1 q.2 A s s.heap ∧ (gv_tm k).eval #[Value.ref b] s none [] s = some (.ref q.1) := by
  have hw : ∀ w, w ∈ gv_want k → w.before #[Value.ref b] s = true := fun w h => gv_sub hgv hk h
  obtain ⟨adK, adV, hS, hev⟩ := vk_Sof (args := #[Value.ref b]) (s := s) (N := 1) (tm := fun _ => gv_tm k) (len := [(am_SL k).length]) (byt := [am_SL k]) (A := A)
    (fun i hi => by
      have e : i = 0 := by omega
      subst e
      have := gv_len k hk
      show (am_SL k).length < 2 ^ 31
      omega)
    (fun i hi => hw _ (by simp [gv_want])) (fun i hi => hw _ (by simp [gv_want])) (fun i hi => hw _ (by simp [gv_want]))
    (fun i hi => by
      have e : i = 0 := by omega
      subst e
      exact hw _ (by simp [gv_want]))
    (fun i hi j hj => by
      have e : i = 0 := by omega
      subst e
      refine hw _ (List.mem_append_right _ (List.mem_map.mpr ⟨j, List.mem_range.mpr hj, rfl⟩)))
    (fun i j hi hj hne => absurd (show i = j by omega) hne) hA
  obtain ⟨h1, h2, h3, h4⟩ := hS.1 0 (by omega)
  exact ⟨(adK 0, adV 0), ⟨h1, h2, h3, h4⟩, hev 0 (by omega)⟩
theorem gv_arr {args : Array Value} {ty : FieldType} (h : (Cond.arrayClass ty).before args s = true) : ∃ cA, ArrOfT s cA ty ∧ s.vm.findClass ("[" ++ ty.toString) = some cA := by
  obtain ⟨cA, kA, comp, h1, h2, h3⟩ := Cond.arrayClass_spec h
  exact ⟨cA, fun n z => ⟨fun k h => (by cases h), kA, h2, comp, h3⟩, h1⟩
theorem gv_K {args : Array Value} (hts0 : ∀ w ∈ lw_tbl, w.before args s = true) : ∃ (D : va_G) (cs : am_CS), va_K D am_cl (am_tys cs) s ∧ va_AO (am_cn 6) s ∧ kn_AI s := by
  have hts : ∀ w ∈ am_TG, w.before args s = true := fun w h => hts0 w (List.mem_filter.mp h).1
  obtain ⟨a1, a2, a3, a4, a5, a6⟩ := kn_tac
  obtain ⟨c1, k1, f1⟩ := gv_arr (hts _ (am_tk a1 rfl))
  obtain ⟨c2, k2, f2⟩ := gv_arr (hts _ (am_tk a2 rfl))
  obtain ⟨c3, k3, f3⟩ := gv_arr (hts _ (am_tk a3 rfl))
  obtain ⟨c4, k4, f4⟩ := gv_arr (hts _ (am_tk a4 rfl))
  obtain ⟨comp5, c5, kk5, g1, g2, g3, g4, g5⟩ := arrayOverA_spec (hts0 _ (am_lk_mem a5))
  obtain ⟨comp6, c6, kk6, e1, e2, e3, e4, e5⟩ := Cond.arrayOver_spec (hts0 _ (am_lk_mem a6))
  have hcl : ∀ ci, ci < 13 → ∃ q : ClassId × (Nat → Nat), u_Kn s (am_cn ci) (am_T ci) (am_n ci) q.1 q.2 := by
    intro ci hci
    obtain ⟨cC, iS, h⟩ := u_known (ws := am_TG) hts (am_in_lays hci) (hts _ (am_tk (kn_tk ci hci).2.2.2 rfl))
    exact ⟨(cC, iS), h⟩
  obtain ⟨f, hf⟩ := ex_fun ((c1, fun _ => 0) : ClassId × (Nat → Nat)) hcl
  refine ⟨(fun c => (f c).1, fun c => (f c).2), (c1, c2, c3, c4, c5, c6), ⟨fun c q hq => ?_, fun k q hq => ?_⟩, va_AO.of (hts0 _ (am_lk_mem a6)), comp5, c5, kk5, g1, g3, g4, g5⟩
  · have hc : c < 13 := (List.getElem?_eq_some_iff.mp hq).1
    rw [am_cl_get c hc] at hq
    cases hq
    exact hf c hc
  · match k, hq with
    | 0, hq => cases hq; exact ⟨k1, f1⟩
    | 1, hq => cases hq; exact ⟨k2, f2⟩
    | 2, hq => cases hq; exact ⟨k3, f3⟩
    | 3, hq => cases hq; exact ⟨k4, f4⟩
    | 4, hq => cases hq; exact ⟨fun n z => ⟨fun k h => (by cases h), kk5, g3, comp5, g4⟩, g5⟩
    | 5, hq => cases hq; exact ⟨fun n z => ⟨fun k h => (by cases h), kk6, e3, comp6, e4⟩, kk6, comp6, e3, e4, e1, e5⟩
    | k + 6, hq => simp [am_tys] at hq
/-- the law's own context -/
theorem gv_Cx {L : Nat} {xs : Nat → Int32} (hgv : (Jvm.Cond.and given_1 narrow_1).before #[Value.ref b] s = true) (hts0 : ∀ w ∈ lw_tbl, w.before #[Value.ref b] s = true) (hX : va_X b L xs s s.heap) (hb : b < s.heap.size) {D : va_G} {cs : am_CS} (hK : va_K D am_cl (am_tys cs) s) : ∃ sA aV : Nat → Nat, am_Cx D cs sA aV b (L, xs) (fun q => s.heap.size ≤ q) s := by
  have hts : ∀ w ∈ am_TG, w.before #[Value.ref b] s = true := fun w h => hts0 w (List.mem_filter.mp h).1
  have hA : ∀ a : Nat, a < s.heap.size → ¬ (fun q : Nat => s.heap.size ≤ q) a := fun a h => Nat.not_le.mpr h
  obtain ⟨f, hf⟩ := ex_fun ((0, 0) : Nat × Nat) (fun k hk => gv_one hgv hA hk)
  obtain ⟨t1, t2, t3, t4⟩ := gv_sts
  obtain ⟨y1, y2, y3, y4, y5, y6, y7⟩ := gv_lay
  have hl : ∀ {w : Cond} {i : Nat}, am_lk i = some w → w.before #[Value.ref b] s = true := fun h => hts0 _ (am_lk_mem h)
  refine ⟨fun k => (f k).1, fun k => (f k).2, hK, fun k hk => (hf k hk).1, fun k o i t hk => ?_, vx_Zqof (hl y3) (hl y7) (gv_at hgv t3) hA, vx_Zqof (hl y4) (hl y7) (gv_at hgv t4) hA, va_Zof (hl y1) (hl y5) (va_eqt (gv_at hgv t1)) hA, va_Zqof (hl y2) (hl y6) (gv_at hgv t2) hA, hX, hb, Nat.not_le.mpr hb, fun w hw hbw => ?_⟩
  · have h77 : k < 77 := (List.getElem?_eq_some_iff.mp hk).1
    have e : am_sx.getD k (0, 0, "") = (o, i, t) := by rw [List.getD_eq_getElem?_getD, hk]; rfl
    have h1 := gv_srok k h77
    have h2 := (hf k h77).2
    unfold gv_tm at h2
    rw [e] at h1 h2
    exact vk_R.of (hl h1) h2
  · have h := hts0 w hw
    revert h
    cases w <;> first | (simp [am_isB] at hbw; done) | exact fun h => h
end GV
