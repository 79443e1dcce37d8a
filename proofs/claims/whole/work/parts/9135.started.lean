/-! THE LAW'S START: both objects and the long cell are made (printed by wip/whole/gen9135.py) -/
theorem lw_lk : am_lk 1030 = some (.classLink (am_cn 13) 8 (am_cn 11)) ∧ am_lk 1032 = some (.methodLink (am_cn 13) 125 (kn_y 11)) ∧ am_lk 7152 = some (.classLink (am_cn 13) 126 (am_cn 12)) ∧ am_lk 7154 = some (.methodLink (am_cn 13) 128 (kn_y 12)) := by decide +kernel
theorem lw_d0 : decode code 0 = .ok (.new 8, 3) := by decide +kernel
theorem lw_d3 : decode code 3 = .ok (.dup, 1) := by decide +kernel
theorem lw_d4 : decode code 4 = .ok (.invokespecial 125, 3) := by decide +kernel
theorem lw_d7 : decode code 7 = .ok (.astore_n 1, 1) := by decide +kernel
theorem lw_d8 : decode code 8 = .ok (.new 126, 3) := by decide +kernel
theorem lw_d11 : decode code 11 = .ok (.dup, 1) := by decide +kernel
theorem lw_d12 : decode code 12 = .ok (.invokespecial 128, 3) := by decide +kernel
theorem lw_d15 : decode code 15 = .ok (.astore_n 2, 1) := by decide +kernel
theorem lw_d16 : decode code 16 = .ok (.iconst 1, 1) := by decide +kernel
theorem lw_d17 : decode code 17 = .ok (.newarray .long, 2) := by decide +kernel
theorem lw_d19 : decode code 19 = .ok (.astore_n 3, 1) := by decide +kernel
set_option maxHeartbeats 4000000 in
theorem lw_made {p : Program} {l : Launch} {e : Env} {s : State} {m : MethodId} {below : List Frame} {meth : Method} {c : Code} {b : Nat} {D : va_G} {cs : am_CS} {Q : State → Prop} {S1 S2 : kn_S} {c1 k1 c2 k2 : Nat} (hx : p.tables.exec = Jvm.exec) (hb : c.code = code) (hml : c.maxLocals = 7) (hown : s.vm.findClass (am_cn 13) = some m.cls) (hts : ∀ w ∈ am_TG, w.before #[Value.ref b] s = true) (hK : va_K D am_cl (am_tys cs) s) (hNW : kn_NW s)
    (h1 : kn_Con l D cs 3 11 [vR 0] (kn_new kn_0 0 11) S1 c1 k1) (h2 : kn_Con l D cs 1 12 [vR S1.1] (kn_new S1 0 12) S2 c2 k2) (hc : c1 + c2 ≤ 1000) (hk : k1 + k2 ≤ 200000)
    (kk : ∀ (H : Heap) (locs : List Loc) (ls : Array Slot), am_Wd D cs (kn_A0 s.heap.size) s (kn_M s.heap.size (kn_new S2 4 1)) H locs → lv_has ls 7 [(3, .ref (s.heap.size + S2.1)), (2, .ref (s.heap.size + S1.1)), (1, .ref s.heap.size), (0, .ref b)] → W p l e room_1 s m #[Value.ref b] below meth c H locs (0 + 1 + c1 + 1 + c2 + 1) (0 + 13 + k1 + 29 + k2 + 1) Q (F0 m 20 ls [])) :
    W p l e room_1 s m #[Value.ref b] below meth c s.heap [] 0 0 Q (entryFrame m ([Value.ref b] : List Value).toArray 7) := by
  obtain ⟨q1, q2, q3, q4⟩ := lw_lk
  obtain ⟨t1, t2, t3, t4⟩ := kn_tk 11 (by omega)
  obtain ⟨u1, u2, u3, u4⟩ := kn_tk 12 (by omega)
  obtain ⟨a1, a2, a3, a4, a5, a6⟩ := kn_tac
  have hA : ∀ q, s.heap.size ≤ q → kn_A0 s.heap.size q := fun q h => h
  have hl := lv_entry ([.ref b]) (n := 7) (Nat.le_of_ble_eq_true rfl)
  rw [lg_entry_eq]
  generalize (lg_sl ([.ref b]) ++ List.replicate (7 - (lg_sl ([.ref b])).length) Slot.unset).toArray = ls at hl ⊢
  have hl : lv_has ls 7 [(0, .ref b)] := hl
  have hW0 : am_Wd D cs (kn_A0 s.heap.size) s (kn_M s.heap.size kn_0) s.heap [] := ⟨fun k q h => absurd (kn_Wat h).1 (Nat.not_lt_zero _), ⟨fun i j x y h => absurd (kn_Wat h).1 (Nat.not_lt_zero _), fun k q h => absurd (kn_Wat h).1 (Nat.not_lt_zero _)⟩, va_S.rf, fun n hn => by cases hn; rfl⟩
  -- the first object
  have hK11 := hK.1 11 _ (am_cl_get 11 (by omega))
  refine W.newcK hx hb hown (hts _ (am_tk q1 rfl)) (hts _ (am_tk t4 rfl)) (hts _ (am_tk t3 rfl)) rfl lw_d0 (Nat.le_of_ble_eq_true rfl) (Nat.le_of_ble_eq_true rfl) hK11.2.1 rfl fun H1 kC hkC e1 z1 o1 => ?_
  have hW1 := kn_grow1 (kd := 0) (n := 11) hW0 z1 o1 ⟨_, am_cl_get 11 (by omega), (u_born (am_ty 11) hts (am_in_lays (by omega)) hK11 hkC e1 (am_pd 11 (by omega))).to (kn_born 11 (by omega))⟩ hA
  have hsz1 : H1.size = s.heap.size + (kn_new kn_0 0 11).1 := hW1.2.2.2 _ rfl
  show W p l e room_1 s m #[Value.ref b] below meth c H1 [] (0 + 1) (0 + 13) Q (F0 m 3 ls [.ref s.heap.size])
  refine lv_dup hx hb lw_d3 rfl ?_
  have hp1 : PreS s H1 (kn_Pre D cs s.heap.size (kn_new kn_0 0 11) [vR 0]) [.ref s.heap.size] := ⟨kn_blind D cs _ _ _, fun U hU hW2 => ⟨rfl, by rw [hU]; exact hsz1, by rw [hU]; exact hW1.1, hW1.2.1, va_K.moved hW2.alike hK, hNW.next hW2⟩⟩
  have hG1 : GoodIn am_TG (kn_ws 11) := am_goodIn (am_mem_cons (am_tk t1 rfl))
  refine va_callv (va_runI (As := []) (rest := [.ref s.heap.size]) ⟨hx, hb, hml, hown, hts⟩ (h1 s.heap.size) (cwI 0 hts hG1 rfl rfl rfl (hts _ (am_tk t3 rfl)) (hts _ (am_tk q2 rfl)) (hts _ (am_tk t2 rfl)) rfl ⟨by decide, by decide, by decide +kernel⟩ ⟨Nat.le_of_ble_eq_true rfl, Nat.le_of_ble_eq_true rfl⟩) hp1 rfl rfl hl.1 rfl (Nat.le_of_ble_eq_true rfl) lw_d4 ⟨?_, ?_⟩) hW1.2.2.1 (fun _ _ h => h) (fun _ h => h) (fun u t H2 locs2 ht hal _ hB hz hold hS2 => ?_)
  · show 0 + 1 + c1 ≤ 601024
    omega
  · show 0 + 13 + k1 ≤ 7293034
    omega
  obtain ⟨b1, b2, b3⟩ := hB
  rw [ht] at b1 b2
  have hW2 : am_Wd D cs (kn_A0 s.heap.size) s (kn_M s.heap.size S1) H2 locs2 := ⟨b2, b3, hS2, fun n hn => by cases hn; exact b1⟩
  refine lv_astore_n (i := 1) hx hb lw_d7 rfl hl (by omega) rfl (fun ls1 hl1 => ?_)
  have hl1 : lv_has ls1 7 [(1, .ref s.heap.size), (0, .ref b)] := hl1
  -- the second
  have hK12 := hK.1 12 _ (am_cl_get 12 (by omega))
  refine W.newcK hx hb hown (hts _ (am_tk q3 rfl)) (hts _ (am_tk u4 rfl)) (hts _ (am_tk u3 rfl)) rfl lw_d8 ?_ ?_ hK12.2.1 rfl fun H3 kC3 hkC3 e3 z3 o3 => ?_
  · show 0 + 1 + c1 + 1 ≤ 601024
    omega
  · show 0 + 13 + k1 + 29 ≤ 7293034
    omega
  have hW3 := kn_grow1 (kd := 0) (n := 12) hW2 z3 o3 ⟨_, am_cl_get 12 (by omega), (u_born (am_ty 12) hts (am_in_lays (by omega)) hK12 hkC3 e3 (am_pd 12 (by omega))).to (kn_born 12 (by omega))⟩ hA
  have hsz3 : H3.size = s.heap.size + (kn_new S1 0 12).1 := hW3.2.2.2 _ rfl
  show W p l e room_1 s m #[Value.ref b] below meth c H3 locs2 (0 + 1 + c1 + 1) (0 + 13 + k1 + 29) Q (F0 m 11 ls1 [.ref H2.size])
  rw [b1]
  refine lv_dup hx hb lw_d11 rfl ?_
  have hp3 : PreS s H3 (kn_Pre D cs s.heap.size (kn_new S1 0 12) [vR S1.1]) [.ref (s.heap.size + S1.1)] := ⟨kn_blind D cs _ _ _, fun U hU hW4 => ⟨rfl, by rw [hU]; exact hsz3, by rw [hU]; exact hW3.1, hW3.2.1, va_K.moved hW4.alike hK, hNW.next hW4⟩⟩
  have hG3 : GoodIn am_TG (kn_ws 12) := am_goodIn (am_mem_cons (am_tk u1 rfl))
  refine va_callv (va_runI (As := []) (rest := [.ref (s.heap.size + S1.1)]) ⟨hx, hb, hml, hown, hts⟩ (h2 s.heap.size) (cwI 0 hts hG3 rfl rfl rfl (hts _ (am_tk u3 rfl)) (hts _ (am_tk q4 rfl)) (hts _ (am_tk u2 rfl)) rfl ⟨by decide, by decide, by decide +kernel⟩ ⟨Nat.le_of_ble_eq_true rfl, Nat.le_of_ble_eq_true rfl⟩) hp3 rfl rfl hl1.1 rfl (Nat.le_of_ble_eq_true rfl) lw_d12 ⟨?_, ?_⟩) hW3.2.2.1 (fun _ _ h => h) (fun _ h => h) (fun u4' t5 H4 locs4 ht4 hal4 _ hB4 hz4 hold4 hS4 => ?_)
  · show 0 + 1 + c1 + 1 + c2 ≤ 601024
    omega
  · show 0 + 13 + k1 + 29 + k2 ≤ 7293034
    omega
  obtain ⟨d1, d2, d3⟩ := hB4
  rw [ht4] at d1 d2
  have hW4 : am_Wd D cs (kn_A0 s.heap.size) s (kn_M s.heap.size S2) H4 locs4 := ⟨d2, d3, hS4, fun n hn => by cases hn; exact d1⟩
  refine lv_astore_n (i := 2) hx hb lw_d15 rfl hl1 (by omega) rfl (fun ls2 hl2 => ?_)
  have hl2 : lv_has ls2 7 [(2, .ref (s.heap.size + S1.1)), (1, .ref s.heap.size), (0, .ref b)] := hl2
  -- the long cell
  refine lv_iconst (v := 1) hx hb lw_d16 rfl ?_
  refine va_newaK (atype := .long) (N := 1) hx hb (hts _ (am_tk a4 rfl)) rfl lw_d17 rfl (by decide) (by decide) (Nat.le_of_ble_eq_true rfl) ?_ ?_ rfl fun H5 cA e5 z5 o5 hAr hNm => ?_
  · show 0 + 1 + c1 + 1 + c2 + 1 ≤ 601024
    omega
  · show 0 + 13 + k1 + 29 + k2 + 1 ≤ 7293034
    omega
  have e : cA = cs.2.2.2.1 := Option.some.inj (hNm.symm.trans (hK.2 3 (cs.2.2.2.1, .long) rfl).2)
  subst e
  have hW5 := kn_grow1 (kd := 4) (n := 1) hW4 z5 o5 e5 hA
  show W p l e room_1 s m #[Value.ref b] below meth c H5 locs4 (0 + 1 + c1 + 1 + c2 + 1) (0 + 13 + k1 + 29 + k2 + 1) Q (F0 m 19 ls2 [.ref H4.size])
  rw [d1]
  refine lv_astore_n (i := 3) hx hb lw_d19 rfl hl2 (by omega) rfl (fun ls3 hl3 => ?_)
  exact kk H5 locs4 ls3 hW5 hl3
