/-! TABLES: the pages of the groups (made by wip/whole/gen89za.py) -/
theorem b_5_6 {X : Nat × (Nat → Int32)} {d : Nat} {p : Nat → Nat} {sg : Mg} {Q : am_R → Prop} {x g w : Nat} {e : Nat} {j : Nat} {z3 : Option AV} (u_e : e ≤ 9) (u_j : j ≤ 9) (hx : j < e → sg 19 j = nI x) (hg : j < e → sg 18 j = nI g) (hw : j < e → sg 20 g = nI w) (u_x : x ≤ 8) (u_g : g ≤ 8) (u_w : w ≤ 511)
    (o1 : (e ≤ j) → Q (gRv p sg 1))
    (o2 : (¬ (e ≤ j)) → ((nI w &&& (1 <<< (nI x &&& 31))) = 0) → ∀ s3 : Mg, s3 = mu sg 20 g (nI w ||| (1 <<< (nI x &&& 31))) → gW X (d + 2) k_5 6 [some (vR 16), some (vI (nI e)), some (vI (nI (j + 1))), some (vI (1 <<< (nI x &&& 31)))] [] p s3 Q)
    (o3 : (¬ (e ≤ j)) → (¬ ((nI w &&& (1 <<< (nI x &&& 31))) = 0)) → Q (gRv p sg 0)) :
    gW X (d + 2) k_5 6 [some (vR 16), some (vI (nI e)), some (vI (nI j)), z3] [] p sg Q := by
  refine g_pure 2 (i' := 8) (lv' := [some (vR 16), some (vI (nI e)), some (vI (nI j)), z3]) (st' := [vI (nI e), vI (nI j)]) rfl ?_
  refine g_if2 (i' := 41) (P := e ≤ j) rfl rfl (g_geN (show nI j = nI j from (rfl : nI j = nI j)) (show nI e = nI e from (rfl : nI e = nI e)) (by omega) (by omega)) (fun h1 => ?_) (fun h1 => ?_)
  · refine g_pure 1 (i' := 42) (lv' := [some (vR 16), some (vI (nI e)), some (vI (nI j)), z3]) (st' := [vI 1]) rfl ?_
    refine g_bret rfl g_nar1 ?_
    exact o1 h1
  · refine g_pure 4 (i' := 13) (lv' := [some (vR 16), some (vI (nI e)), some (vI (nI j)), z3]) (st' := [vI (nI j), vR 19, vI 1]) rfl ?_
    refine g_ald rfl (g_A (a := 19) (kd := 1) (n := 9) rfl (by decide)) (by decide) (show nI j = nI j from (rfl : nI j = nI j)) (by omega) (show _ = nI x from (hx (by omega))) ?_
    refine g_pure 7 (i' := 21) (lv' := [some (vR 16), some (vI (nI e)), some (vI (nI j)), some (vI (1 <<< (nI x &&& 31)))]) (st' := [vI (nI j), vR 18, vR 20]) rfl ?_
    refine g_ald rfl (g_A (a := 18) (kd := 1) (n := 9) rfl (by decide)) (by decide) (show nI j = nI j from (rfl : nI j = nI j)) (by omega) (show _ = nI g from (hg (by omega))) ?_
    refine g_ald rfl (g_A (a := 20) (kd := 1) (n := 9) rfl (by decide)) (by decide) (show nI g = nI g from (rfl : nI g = nI g)) (by omega) (show _ = nI w from (hw (by omega))) ?_
    refine g_pure 2 (i' := 25) (lv' := [some (vR 16), some (vI (nI e)), some (vI (nI j)), some (vI (1 <<< (nI x &&& 31)))]) (st' := [vI (nI w &&& (1 <<< (nI x &&& 31)))]) rfl ?_
    refine g_if1 (i' := 28) (P := (nI w &&& (1 <<< (nI x &&& 31))) = 0) rfl rfl Iff.rfl (fun h2 => ?_) (fun h2 => ?_)
    · refine g_pure 5 (i' := 33) (lv' := [some (vR 16), some (vI (nI e)), some (vI (nI j)), some (vI (1 <<< (nI x &&& 31)))]) (st' := [vI (nI j), vR 18, vR 20]) rfl ?_
      refine g_ald rfl (g_A (a := 18) (kd := 1) (n := 9) rfl (by decide)) (by decide) (show nI j = nI j from (rfl : nI j = nI j)) (by omega) (show _ = nI g from (hg (by omega))) ?_
      refine g_pure 1 (i' := 35) (lv' := [some (vR 16), some (vI (nI e)), some (vI (nI j)), some (vI (1 <<< (nI x &&& 31)))]) (st' := [vI (nI g), vR 20, vI (nI g), vR 20]) rfl ?_
      refine g_ald rfl (g_A (a := 20) (kd := 1) (n := 9) rfl (by decide)) (by decide) (show nI g = nI g from (rfl : nI g = nI g)) (by omega) (show _ = nI w from (hw (by omega))) ?_
      refine g_pure 2 (i' := 38) (lv' := [some (vR 16), some (vI (nI e)), some (vI (nI j)), some (vI (1 <<< (nI x &&& 31)))]) (st' := [vI (nI w ||| (1 <<< (nI x &&& 31))), vI (nI g), vR 20]) rfl ?_
      refine g_ast rfl (g_A (a := 20) (kd := 1) (n := 9) rfl (by decide)) (by decide) (show nI g = nI g from (rfl : nI g = nI g)) (by omega) ?_
      refine g_setv (fun s3 es3 => ?_)
      refine g_pure 2 (i' := 6) (lv' := [some (vR 16), some (vI (nI e)), some (vI (nI j + 1)), some (vI (1 <<< (nI x &&& 31)))]) (st' := []) rfl ?_
      refine gW_eq (lv' := [some (vR 16), some (vI (nI e)), some (vI (nI (j + 1))), some (vI (1 <<< (nI x &&& 31)))]) (st' := []) (by rw [(show (nI j + 1) = nI (j + 1) from ((g_add (rfl : nI j = nI j) (show (1 : Int32) = nI 1 from rfl))).trans (congrArg nI (by omega)))]) rfl rfl ?_
      exact o2 h1 h2 s3 es3
    · refine g_pure 1 (i' := 27) (lv' := [some (vR 16), some (vI (nI e)), some (vI (nI j)), some (vI (1 <<< (nI x &&& 31)))]) (st' := [vI 0]) rfl ?_
      refine g_bret rfl g_nar0 ?_
      exact o3 h1 h2

/-- the pages of a group, by the days below j -/
def pgB (g f : Nat → Nat) : Nat → Nat → Nat
  | 0, _ => 0
  | j + 1, l => if g j = l then pgB g f j l ||| 2 ^ f j else pgB g f j l
theorem pgB_up {g f : Nat → Nat} {D : Nat} (h : gOK g f D) (h9 : D ≤ 9) : ∀ j, j ≤ D → ∀ l, pgB g f j l < 512
  | 0, _, _ => (by decide : (0 : Nat) < 512)
  | j + 1, hj, l => by
    have ih := pgB_up h h9 j (by omega) l
    have := h j (by omega)
    show (if g j = l then pgB g f j l ||| 2 ^ f j else pgB g f j l) < 512
    split
    · exact Nat.or_lt_two_pow (n := 9) ih (Nat.pow_lt_pow_right (by decide) (by omega))
    · exact ih
theorem bit_in : ∀ w, w < 512 → ∀ x, x < 9 → ((nI w &&& (1 <<< (nI x &&& 31))) = 0 ↔ w.testBit x = false) := by decide +kernel
theorem s_5 {X : Nat × (Nat → Int32)} {d : Nat} {p : Nat → Nat} {sg : Mg} {g f : Nat → Nat} {D : Nat} (h : gOK g f D) (hm : grM g f D sg) (h9 : D ≤ 9) : gF X (d + 3) 5 [vR 16, vI (nI D)] p sg (fun r => ∃ (s : Mg) (res : Bool), (∀ c, c ≠ 20 → s c = sg c) ∧ (res = true → ∀ l, l < 9 → s 20 l = nI (pgB g f D l)) ∧ (res = true ↔ ∀ j, j < D → (pgB g f j (g j)).testBit (f j) = false) ∧ r = gRv p s (if res = true then 1 else 0)) := by
  refine g_in (cd := k_5) (nL := 4) (rc := 1) rfl (g_A (a := 16) (kd := 0) (n := 0) rfl (by decide)) (g_c1 rfl) ?_
  show gW X (d + 2) k_5 0 [some (vR 16), some (vI (nI D)), none, none] [] p sg _
  refine g_pure 3 (i' := 3) (lv' := [some (vR 16), some (vI (nI D)), none, none]) (st' := [vI 0, vR 20]) rfl ?_
  refine g_calS rfl (args := [vR 20, vI 0]) (rest := []) rfl rfl (Nat.zero_le _) (s_318 (d := d + 1) (g_A (a := 20) (kd := 1) (n := 9) rfl (by decide)) (by omega)) (fun q hq => ?_)
  obtain ⟨s1, g1, rfl⟩ := hq
  refine gK_0 ?_
  refine g_pure 2 (i' := 6) (lv' := [some (vR 16), some (vI (nI D)), some (vI 0), none]) (st' := []) rfl ?_
  have key := g_upI (P := fun j => ∀ s z3, (∀ c, c ≠ 20 → s c = sg c) → (∀ l, l < 9 → s 20 l = nI (pgB g f j l)) → gW X (d + 2) k_5 6 [some (vR 16), some (vI (nI D)), some (vI (nI j)), z3] [] p s (fun r => ∃ (s : Mg) (res : Bool), (∀ c, c ≠ 20 → s c = sg c) ∧ (res = true → ∀ l, l < 9 → s 20 l = nI (pgB g f D l)) ∧ (res = true ↔ ∀ j, j < D → (pgB g f j (g j)).testBit (f j) = false) ∧ r = gRv p s (if res = true then 1 else 0))) (I := fun j => ∀ i, i < j → (pgB g f i (g i)).testBit (f i) = false) (n := D) (a := 0) (by omega) (fun i hi => absurd hi (Nat.not_lt_zero _)) ?_ ?_
  · exact key s1 none (fun c hc => g1.1 c hc) (fun l hl => g1.2 l hl)
  · intro j _ hj hin ih s z3 hs hp
    have hj2 := h j hj
    have hu := pgB_up h h9 j (by omega) (g j)
    have hbi := bit_in (pgB g f j (g j)) hu (f j) (by omega)
    refine b_5_6 h9 (by omega) (fun _ => by rw [hs 19 (by decide)]; exact hm.2 j hj) (fun _ => by rw [hs 18 (by decide)]; exact hm.1 j hj) (fun _ => hp (g j) (by omega)) (by omega) (by omega) (by omega) (fun h => by omega) (fun _ hb s3 e3 => ?_) (fun _ hb => ?_)
    · refine ih (fun i hi => ?_) s3 _ (fun c hc => by rw [e3, mu_ne hc]; exact hs c hc) (fun l hl => ?_)
      · by_cases e : i = j
        · subst e; exact hbi.mp hb
        · exact hin i (by omega)
      · show s3 20 l = nI (if g j = l then pgB g f j l ||| 2 ^ f j else pgB g f j l)
        by_cases e : g j = l
        · subst e; rw [if_pos rfl, e3, mu_self, nI_orbit (by omega)]
        · rw [if_neg e, e3, mu_idx (fun e9 => e e9.symm)]; exact hp l hl
    · exact ⟨s, false, hs, fun h => (by cases h), ⟨fun h => (by cases h), fun g2 => absurd (hbi.mpr (g2 j hj)) hb⟩, rfl⟩
  · intro hin s z3 hs hp
    refine b_5_6 (x := 0) (g := 0) (w := 0) h9 h9 (fun h => absurd h (Nat.lt_irrefl _)) (fun h => absurd h (Nat.lt_irrefl _)) (fun h => absurd h (Nat.lt_irrefl _)) (by omega) (by omega) (by omega) (fun _ => ⟨s, true, hs, fun _ => hp, ⟨fun _ => hin, fun _ => rfl⟩, rfl⟩) (fun h => by omega) (fun h => by omega)
