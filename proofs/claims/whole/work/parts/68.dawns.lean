/-! DAWNS (made by wip/whole/gen68.py) -/
/-- so many dawns more, and the news -/
def dws (S : Nat → Int32) : Nat → (Nat → Int32) × Nat
  | 0 => (S, 0)
  | n + 1 => (dw6 (dws S n).1, (dws S n).2 + dwN (dws S n).1)
theorem dws_inv {B : Nat} {S : Nat → Int32} (hI : Inv B S) (hs : Str S) : ∀ n, B + n ≤ 200000 → Inv (B + n) (dws S n).1 ∧ Str (dws S n).1 ∧ ∀ i, kqI i → (dws S n).1 i = S i
  | 0, _ => ⟨hI, hs, fun _ _ => rfl⟩
  | n + 1, h => by
    obtain ⟨h1, h2, h3⟩ := dws_inv hI hs n (by omega)
    have g := dw6_inv h1 h2 (by omega)
    rw [show dws S (n + 1) = (dw6 (dws S n).1, (dws S n).2 + dwN (dws S n).1) from rfl, ← Nat.add_assoc]
    dsimp only
    generalize dw6 (dws S n).1 = T at g
    exact ⟨g.1, g.2.1, fun i hi => (g.2.2 i hi).trans (h3 i hi)⟩
theorem s_24 {X : Nat × (Nat → Int32)} {d : Nat} {p : Nat → Nat} {sg : Mg} {B : Nat} {S : Nat → Int32} (hI : Inv B S) (hL : cwL 250 sg S) (hD : cwD 200 sg S) (hs : Str S) (hW : LW S sg) {n : Nat} (hn : n ≤ 200) (hB : B + n ≤ 200000) : gF X (d + 8) 24 [vR 6, vI (nI n)] p sg (fun r => ∃ s, (DF sg s ∧ CS s (dws S n).1) ∧ r = gRv p s (nI (dws S n).2)) := by
  refine g_in (cd := k_24) (nL := 3) (rc := 3) rfl (g_A (a := 6) (kd := 0) (n := 2) rfl (by decide)) (g_c1 rfl) ?_
  show gW X (d + 7) k_24 0 [some (vR 6), some (vI (nI n)), none] [] p sg _
  refine g_pure 2 (i' := 2) (lv' := [some (vR 6), some (vI (nI n)), none]) (st' := [vI 0, vR 6]) rfl ?_
  refine g_putI rfl (g_A (a := 6) (kd := 0) (n := 2) rfl (by decide)) ?_
  refine g_pure 2 (i' := 5) (lv' := [some (vR 6), some (vI (nI n)), some (vI (nI 0))]) (st' := []) rfl ?_
  have key := g_upI (P := fun k => ∀ s, DF sg s → s 6 4 = nI (dws S k).2 → CS s (dws S k).1 → gW X (d + 7) k_24 5 [some (vR 6), some (vI (nI n)), some (vI (nI k))] [] p s (fun r => ∃ s, (DF sg s ∧ CS s (dws S n).1) ∧ r = gRv p s (nI (dws S n).2))) (I := fun _ => True) (n := n) (a := 0) (by omega) trivial ?_ ?_
  · exact key _ (fun c h6 _ _ _ _ => mu_ne h6) mu_self ⟨hL.out (by decide), hD.out (by decide)⟩
  · intro k _ hk _ ih s f e c
    have ih := ih trivial
    obtain ⟨h1, h2, h3⟩ := dws_inv hI hs k (by omega)
    have w : LW (dws S k).1 s := (hW.df f).ext (fun i hi => h3 i (dw_k7 hi))
    rw [show dws S (k + 1) = (dw6 (dws S k).1, (dws S k).2 + dwN (dws S k).1) from rfl] at ih
    refine g_pure 2 (i' := 7) (lv' := [some (vR 6), some (vI (nI n)), some (vI (nI k))]) (st' := [vI (nI n), vI (nI k)]) rfl ?_
    refine g_if2 (i' := 12) (P := n ≤ k) rfl rfl (g_geN rfl rfl (by omega) (by omega)) (fun h => by omega) (fun _ => ?_)
    refine g_pure 1 (i' := 9) (lv' := [some (vR 6), some (vI (nI n)), some (vI (nI k))]) (st' := [vR 6]) rfl ?_
    refine g_cV0E rfl (args := [vR 6]) (rest := []) rfl rfl rfl (s_25 (d := d) h1 c.1 c.2 h2 w (by omega)) (fun s1 g1 => ?_)
    refine g_pure 2 (i' := 5) (lv' := [some (vR 6), some (vI (nI n)), some (vI (nI k + 1))]) (st' := []) rfl ?_
    refine gW_eq (lv' := [some (vR 6), some (vI (nI n)), some (vI (nI (k + 1)))]) (by rw [nI_succ]) rfl rfl ?_
    generalize dw6 (dws S k).1 = T at ih g1
    generalize dwN (dws S k).1 = N at ih g1
    dsimp only at ih
    refine ih s1 (f.tr g1.1) ?_ g1.2.2
    rw [g1.2.1, e, nI_add]
  · intro _ s f e c
    refine g_pure 2 (i' := 7) (lv' := [some (vR 6), some (vI (nI n)), some (vI (nI n))]) (st' := [vI (nI n), vI (nI n)]) rfl ?_
    refine g_if2 (i' := 12) (P := n ≤ n) rfl rfl (g_geN rfl rfl (by omega) (by omega)) (fun _ => ?_) (fun h => by omega)
    refine g_pure 1 (i' := 13) (lv' := [some (vR 6), some (vI (nI n)), some (vI (nI n))]) (st' := [vR 6]) rfl ?_
    refine g_getI rfl (g_A (a := 6) (kd := 0) (n := 2) rfl (by decide)) e ?_
    exact g_iret rfl ⟨s, ⟨f, c⟩, rfl⟩
