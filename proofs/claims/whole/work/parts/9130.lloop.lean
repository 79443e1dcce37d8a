/-! THE LAW'S LOOP (printed by wip/whole/gen9130.py) -/
theorem lp_cond {m n : Nat} (hm : m ≤ 3072) (hn : n ≤ 6144) : g_cd .gt (nI n) (nI m - 6) ↔ m < n + 6 := by
  show nI m - 6 < nI n ↔ _
  rw [Int32.lt_iff_toInt_lt, Int32.toInt_sub, nI_toInt (by omega), nI_toInt (by omega), show (6 : Int32).toInt = 6 from by decide, Int.bmod_eq_of_le (by omega) (by omega)]
  omega
theorem h_sw {X : Nat × (Nat → Int32)} {d : Nat} {cd k : List am_CE} {hs : List (Nat × Nat × Nat)} {lv : List (Option AV)} {st : List AV} {p : Nat → Nat} {sg : Mg} {kc ks : Nat} {Q : am_R → Prop} {off : Int} {offs : Array Int} {pc nx r1 r2 : Nat} {x a : Int32}
    (hin : ∀ c : Nat, a.toInt = (c : Int) → c ≤ 40 → hL X d cd hs (am_seek ((pc : Int) + offs.getD c 0).toNat cd) lv st p sg kc ks Q) (hout : hL X d cd hs (am_seek r1 cd) lv st p sg kc ks Q) : hL X d cd hs ((pc, .tableswitch off 0 40 offs, nx, r1, r2, x) :: k) lv (vI a :: st) p sg kc ks Q := by
  refine h_stp ⟨fun _ => hout, fun h => ?_⟩
  have h0 : 0 ≤ a.toInt := by omega
  have h1 := hin a.toInt.toNat (by omega) (by omega)
  rw [Int.sub_zero]
  exact h1
def lwQ (k0 s0 : Nat) (r : am_R) : Prop := ∃ p s kc ks, kc ≤ k0 + 512 ∧ ks ≤ s0 + 3072 ∧ r = ((gE p, s), .inl (some (vI 1)), kc, ks)
theorem hd_352 {X : Nat × (Nat → Int32)} {n B : Nat} {A : AS} {p : Nat → Nat} {sg : Mg} {kc ks : Nat} {o5 o6 : Option AV} {Q : am_R → Prop} (hX : X.1 < 2147483648) (hn : n + 6 ≤ X.1) (hI : RI B A) (hB : B + 200 ≤ 200000) (hR : RC A p sg) (hM : RM A sg) (nx : NX X n (B + 200) kc ks Q) : hL X 41 k_352 [] (kl_0.drop 8 ++ K_1) (lwv n o5 o6) [] p sg kc ks Q := by
  refine h_pure 2 (k' := kl_0.drop 10 ++ K_1) (lv' := lwv n o5 o6) (st' := [vI (nI n), vX]) rfl ?_
  refine h_sld (j := n) rfl (by omega) hX ?_
  refine h_pure 2 (k' := kl_0.drop 13 ++ K_1) (lv' := lwv n o5 o6) (st' := [vI (X.2 n &&& 63)]) rfl ?_
  have hd : hL X 41 k_352 [] K_42 (lwv n o5 o6) [] p sg kc ks Q := nx A p sg kc ks o5 o6 (hI.mono (by omega) hB) hR hM (by omega) (by omega)
  refine h_sw (fun c hc h40 => ?_) (h_eq sk_42 rfl rfl hd)
  rcases (show c = 0 ∨ c = 1 ∨ c = 2 ∨ c = 3 ∨ c = 4 ∨ c = 5 ∨ c = 6 ∨ c = 7 ∨ c = 8 ∨ c = 9 ∨ c = 10 ∨ c = 11 ∨ c = 12 ∨ c = 13 ∨ c = 14 ∨ c = 15 ∨ c = 16 ∨ c = 17 ∨ c = 18 ∨ c = 19 ∨ c = 20 ∨ c = 21 ∨ c = 22 ∨ c = 23 ∨ c = 24 ∨ c = 25 ∨ c = 26 ∨ c = 27 ∨ c = 28 ∨ c = 29 ∨ c = 30 ∨ c = 31 ∨ c = 32 ∨ c = 33 ∨ c = 34 ∨ c = 35 ∨ c = 36 ∨ c = 37 ∨ c = 38 ∨ c = 39 ∨ c = 40 by omega) with rfl | rfl | rfl | rfl | rfl | rfl | rfl | rfl | rfl | rfl | rfl | rfl | rfl | rfl | rfl | rfl | rfl | rfl | rfl | rfl | rfl | rfl | rfl | rfl | rfl | rfl | rfl | rfl | rfl | rfl | rfl | rfl | rfl | rfl | rfl | rfl | rfl | rfl | rfl | rfl | rfl
  · exact h_eq (show am_seek 220 k_352 = K_1 from (to_1 220 (by decide)).trans rfl) rfl rfl (ld_0 hX hn hI hB hR hM nx)
  · exact h_eq (show am_seek 293 k_352 = K_2 from (to_2 293 (by decide)).trans rfl) rfl rfl (ld_1 hX hn hI hB hR hM nx)
  · exact h_eq (show am_seek 318 k_352 = K_3 from (to_3 318 (by decide)).trans rfl) rfl rfl (ld_2 hX hn hI hB hR hM nx)
  · exact h_eq (show am_seek 362 k_352 = K_4 from (to_4 362 (by decide)).trans rfl) rfl rfl (ld_3 hX hn hI hB hR hM nx)
  · exact h_eq (show am_seek 406 k_352 = K_5 from (to_5 406 (by decide)).trans rfl) rfl rfl (ld_4 hX hn hI hB hR hM nx)
  · exact h_eq (show am_seek 419 k_352 = K_6 from (to_6 419 (by decide)).trans rfl) rfl rfl (ld_5 hX hn hI hB hR hM nx)
  · exact h_eq (show am_seek 487 k_352 = K_7 from (to_7 487 (by decide)).trans rfl) rfl rfl (ld_6 hX hn hI hB hR hM nx)
  · exact h_eq (show am_seek 555 k_352 = K_8 from (to_8 555 (by decide)).trans rfl) rfl rfl (ld_7 hX hn hI hB hR hM nx)
  · exact h_eq (show am_seek 635 k_352 = K_9 from (to_9 635 (by decide)).trans rfl) rfl rfl (ld_8 hX hn hI hB hR hM nx)
  · exact h_eq (show am_seek 703 k_352 = K_10 from (to_10 703 (by decide)).trans rfl) rfl rfl (ld_9 hX hn hI hB hR hM nx)
  · exact h_eq (show am_seek 771 k_352 = K_11 from (to_11 771 (by decide)).trans rfl) rfl rfl (ld_10 hX hn hI hB hR hM nx)
  · exact h_eq (show am_seek 839 k_352 = K_12 from (to_12 839 (by decide)).trans rfl) rfl rfl (ld_11 hX hn hI hB hR hM nx)
  · exact h_eq (show am_seek 907 k_352 = K_13 from (to_13 907 (by decide)).trans rfl) rfl rfl (ld_12 hX hn hI hB hR hM nx)
  · exact h_eq (show am_seek 991 k_352 = K_14 from (to_14 991 (by decide)).trans rfl) rfl rfl (ld_13 hX hn hI hB hR hM nx)
  · exact h_eq (show am_seek 1071 k_352 = K_15 from (to_15 1071 (by decide)).trans rfl) rfl rfl (ld_14 hX hn hI hB hR hM nx)
  · exact h_eq (show am_seek 1139 k_352 = K_16 from (to_16 1139 (by decide)).trans rfl) rfl rfl (ld_15 hX hn hI hB hR hM nx)
  · exact h_eq (show am_seek 1219 k_352 = K_17 from (to_17 1219 (by decide)).trans rfl) rfl rfl (ld_16 hX hn hI hB hR hM nx)
  · exact h_eq (show am_seek 1287 k_352 = K_18 from (to_18 1287 (by decide)).trans rfl) rfl rfl (ld_17 hX hn hI hB hR hM nx)
  · exact h_eq (show am_seek 1362 k_352 = K_19 from (to_19 1362 (by decide)).trans rfl) rfl rfl (ld_18 hX hn hI hB hR hM nx)
  · exact h_eq (show am_seek 1418 k_352 = K_20 from (to_20 1418 (by decide)).trans rfl) rfl rfl (ld_19 hX hn hI hB hR hM nx)
  · exact h_eq (show am_seek 1498 k_352 = K_21 from (to_21 1498 (by decide)).trans rfl) rfl rfl (ld_20 hX hn hI hB hR hM nx)
  · exact h_eq (show am_seek 1578 k_352 = K_22 from (to_22 1578 (by decide)).trans rfl) rfl rfl (ld_21 hX hn hI hB hR hM nx)
  · exact h_eq (show am_seek 1674 k_352 = K_23 from (to_23 1674 (by decide)).trans rfl) rfl rfl (ld_22 hX hn hI hB hR hM nx)
  · exact h_eq (show am_seek 1742 k_352 = K_24 from (to_24 1742 (by decide)).trans rfl) rfl rfl (ld_23 hX hn hI hB hR hM nx)
  · exact h_eq (show am_seek 1810 k_352 = K_25 from (to_25 1810 (by decide)).trans rfl) rfl rfl (ld_24 hX hn hI hB hR hM nx)
  · exact h_eq (show am_seek 1866 k_352 = K_26 from (to_26 1866 (by decide)).trans rfl) rfl rfl (ld_25 hX hn hI hB hR hM nx)
  · exact h_eq (show am_seek 1934 k_352 = K_27 from (to_27 1934 (by decide)).trans rfl) rfl rfl (ld_26 hX hn hI hB hR hM nx)
  · exact h_eq (show am_seek 2030 k_352 = K_28 from (to_28 2030 (by decide)).trans rfl) rfl rfl (ld_27 hX hn hI hB hR hM nx)
  · exact h_eq (show am_seek 2126 k_352 = K_29 from (to_29 2126 (by decide)).trans rfl) rfl rfl (ld_28 hX hn hI hB hR hM nx)
  · exact h_eq (show am_seek 2194 k_352 = K_30 from (to_30 2194 (by decide)).trans rfl) rfl rfl (ld_29 hX hn hI hB hR hM nx)
  · exact h_eq (show am_seek 2238 k_352 = K_31 from (to_31 2238 (by decide)).trans rfl) rfl rfl (ld_30 hX hn hI hB hR hM nx)
  · exact h_eq (show am_seek 2282 k_352 = K_32 from (to_32 2282 (by decide)).trans rfl) rfl rfl (ld_31 hX hn hI hB hR hM nx)
  · exact h_eq (show am_seek 2338 k_352 = K_33 from (to_33 2338 (by decide)).trans rfl) rfl rfl (ld_32 hX hn hI hB hR hM nx)
  · exact h_eq (show am_seek 2394 k_352 = K_34 from (to_34 2394 (by decide)).trans rfl) rfl rfl (ld_33 hX hn hI hB hR hM nx)
  · exact h_eq (show am_seek 2462 k_352 = K_35 from (to_35 2462 (by decide)).trans rfl) rfl rfl (ld_34 hX hn hI hB hR hM nx)
  · exact h_eq (show am_seek 2558 k_352 = K_36 from (to_36 2558 (by decide)).trans rfl) rfl rfl (ld_35 hX hn hI hB hR hM nx)
  · exact h_eq (show am_seek 2626 k_352 = K_37 from (to_37 2626 (by decide)).trans rfl) rfl rfl (ld_36 hX hn hI hB hR hM nx)
  · exact h_eq (show am_seek 2651 k_352 = K_38 from (to_38 2651 (by decide)).trans rfl) rfl rfl (ld_37 hX hn hI hB hR hM nx)
  · exact h_eq (show am_seek 2664 k_352 = K_39 from (to_39 2664 (by decide)).trans rfl) rfl rfl (ld_38 hX hn hI hB hR hM nx)
  · exact h_eq (show am_seek 2675 k_352 = K_40 from (to_40 2675 (by decide)).trans rfl) rfl rfl (ld_39 hX hn hI hB hR hM nx)
  · exact h_eq (show am_seek 2688 k_352 = K_41 from (to_41 2688 (by decide)).trans rfl) rfl rfl (ld_40 hX hn hI hB hR hM nx)
theorem law_loop {X : Nat × (Nat → Int32)} {k0 s0 : Nat} (hX : X.1 ≤ 3072) : ∀ (m i : Nat) (A : AS) (p : Nat → Nat) (sg : Mg) (kc ks : Nat) (o5 o6 : Option AV), X.1 < 6 * (i + m) + 6 → i ≤ 512 → RI (200 * i) A → RC A p sg → RM A sg → kc ≤ k0 + i → ks ≤ s0 + 6 * i → hL X 41 k_352 [] (kl_0.drop 2 ++ K_1) (lwv (6 * i) o5 o6) [] p sg kc ks (lwQ k0 s0) := by
  intro m
  induction m with
  | zero =>
    intro i A p sg kc ks o5 o6 hm hi hI hR hM h1 h2
    refine h_pure 2 (k' := kl_0.drop 4 ++ K_1) (lv' := lwv (6 * i) o5 o6) (st' := [vX, vI (nI (6 * i))]) rfl ?_
    refine h_slen ?_
    refine h_pure 2 (k' := kl_0.drop 7 ++ K_1) (lv' := lwv (6 * i) o5 o6) (st' := [vI (nI X.1 - 6), vI (nI (6 * i))]) rfl ?_
    refine h_if2 (k' := kl_42.drop 2) (P := X.1 < 6 * i + 6) sk_end (lp_cond hX (by omega)) (fun _ => ?_) (fun h => absurd (show X.1 < 6 * i + 6 by omega) h)
    refine h_pure 1 (k' := kl_42.drop 3) (lv' := lwv (6 * i) o5 o6) (st' := [vI 1]) rfl ?_
    exact h_bret g_nar1 ⟨p, sg, kc, ks, by omega, by omega, rfl⟩
  | succ m ih =>
    intro i A p sg kc ks o5 o6 hm hi hI hR hM h1 h2
    refine h_pure 2 (k' := kl_0.drop 4 ++ K_1) (lv' := lwv (6 * i) o5 o6) (st' := [vX, vI (nI (6 * i))]) rfl ?_
    refine h_slen ?_
    refine h_pure 2 (k' := kl_0.drop 7 ++ K_1) (lv' := lwv (6 * i) o5 o6) (st' := [vI (nI X.1 - 6), vI (nI (6 * i))]) rfl ?_
    refine h_if2 (k' := kl_42.drop 2) (P := X.1 < 6 * i + 6) sk_end (lp_cond hX (by omega)) (fun _ => ?_) (fun hlt => ?_)
    · refine h_pure 1 (k' := kl_42.drop 3) (lv' := lwv (6 * i) o5 o6) (st' := [vI 1]) rfl ?_
      exact h_bret g_nar1 ⟨p, sg, kc, ks, by omega, by omega, rfl⟩
    · refine hd_352 (B := 200 * i) (by omega) (by omega) hI (by omega) hR hM (fun A2 p2 s2 kc2 ks2 q5 q6 i1 i2 i3 i4 i5 => ?_)
      refine h_pure 1 (k' := kl_42.drop 1) (lv' := [some vX, some (vR 0), some (vR 800), some (vR 900), some (vI (nI (6 * i) + 6)), q5, q6]) (st' := []) rfl ?_
      refine h_goto (k' := kl_0.drop 2 ++ K_1) sk_0 ?_
      refine h_eq rfl (lv' := lwv (6 * (i + 1)) q5 q6) ?_ rfl (ih (i + 1) A2 p2 s2 kc2 ks2 q5 q6 (by omega) (by omega) (by rw [show 200 * (i + 1) = 200 * i + 200 by omega]; exact i1) i2 i3 (by omega) (by omega))
      rw [show 6 * (i + 1) = 6 * i + 6 by omega, show nI (6 * i) + 6 = nI (6 * i + 6) from nI_add (6 * i) 6]
theorem law_all {X : Nat × (Nat → Int32)} {k0 s0 : Nat} (hX : X.1 ≤ 3072) {A : AS} {p : Nat → Nat} {sg : Mg} (hI : RI 0 A) (hR : RC A p sg) (hM : RM A sg) : hL X 41 k_352 [] k_352 [some vX, some (vR 0), some (vR 800), some (vR 900), none, none, none] [] p sg k0 s0 (lwQ k0 s0) := by
  refine h_eq k_352_eq rfl rfl ?_
  refine h_pure 2 (k' := kl_0.drop 2 ++ K_1) (lv' := lwv (6 * 0) none none) (st' := []) rfl ?_
  exact law_loop hX 512 0 A p sg k0 s0 none none (by omega) (by omega) hI hR hM (by omega) (by omega)
