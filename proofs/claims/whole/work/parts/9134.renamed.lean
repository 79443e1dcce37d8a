/-! THE FIRST MEMORY, renamed, is in the heap -/
theorem am_fs_eqP : ∀ (t : List Bool) (k : Nat) (p p' : Nat → Option Nat) (g : Nat → Int32), (∀ i, k ≤ i → i < k + t.length → p i = p' i) → am_fs t k p g = am_fs t k p' g
  | [], _, _, _, _, _ => rfl
  | b :: t, k, p, p', g, h => by
    simp only [List.length_cons] at h
    simp only [am_fs]
    rw [am_fs_eqP t (k + 1) p p' g (fun i h1 h2 => h i (by omega) (by omega)), h k (Nat.le_refl k) (by omega)]
theorem arrV_eq {c : ClassId} {n : Nat} {f g : Nat → Value} (h : ∀ j, j < n → f j = g j) : arrV c n f = arrV c n g := by
  unfold arrV
  congr 1
  apply Array.ext
  · simp
  · intro i h1 h2
    simp only [Array.size_ofFn] at h1
    simp only [Array.getElem_ofFn]
    exact h i h1
def kn_bn (kd n : Nat) : Nat := match kd with
  | 0 => (am_ft n).length
  | 5 => n
  | 6 => n
  | _ => 0
theorem kn_at_eq {D : va_G} {cs : am_CS} {H : Heap} {a n : Nat} {p p' : Nat → Option Nat} {g : Nat → Int32} : ∀ (kd : Nat), kd ≤ 6 → (∀ i, i < kn_bn kd n → p i = p' i) → va_at D am_cl (a, am_cell cs (kd, n, p) g) H → va_at D am_cl (a, am_cell cs (kd, n, p') g) H
  | 0, _, hp, h => by
    have e : am_cell cs (0, n, p) g = am_cell cs (0, n, p') g := by
      show Sum.inr (n, am_fs (am_ft n) 0 p g) = Sum.inr (n, am_fs (am_ft n) 0 p' g)
      rw [am_fs_eqP (am_ft n) 0 p p' g (fun i _ h2 => hp i (by rw [Nat.zero_add] at h2; exact h2))]
    rw [← e]
    exact h
  | 1, _, _, h => h
  | 2, _, _, h => h
  | 3, _, _, h => h
  | 4, _, _, h => h
  | 5, _, hp, h => by
    have h1 : H[a]? = some (vp_cell cs.2.2.2.2.1 (n, .inr (.inr (.inr (.inr p))))) := h
    show H[a]? = some (vp_cell cs.2.2.2.2.1 (n, .inr (.inr (.inr (.inr p')))))
    rw [h1, vp_cell_q, vp_cell_q, arrV_eq (fun j hj => by rw [hp j hj])]
  | 6, _, hp, h => by
    have h1 : H[a]? = some (vp_cell cs.2.2.2.2.2 (n, .inr (.inr (.inr (.inr p))))) := h
    show H[a]? = some (vp_cell cs.2.2.2.2.2 (n, .inr (.inr (.inr (.inr p')))))
    rw [h1, vp_cell_q, vp_cell_q, arrV_eq (fun j hj => by rw [hp j hj])]
  | k + 7, h7, _, _ => by omega
theorem nd_inj : ∀ (l : List Nat), l.Nodup → ∀ (i j a : Nat), l[i]? = some a → l[j]? = some a → i = j
  | [], _, i, _, _, h, _ => by simp at h
  | x :: l, hn, i, j, a, hi, hj => by
    obtain ⟨h1, h2⟩ := List.nodup_cons.mp hn
    match i, j, hi, hj with
    | 0, 0, _, _ => rfl
    | 0, j + 1, hi, hj =>
      simp only [List.getElem?_cons_zero, Option.some.injEq] at hi
      simp only [List.getElem?_cons_succ] at hj
      subst hi
      exact absurd (List.mem_of_getElem? hj) h1
    | i + 1, 0, hi, hj =>
      simp only [List.getElem?_cons_zero, Option.some.injEq] at hj
      simp only [List.getElem?_cons_succ] at hi
      subst hj
      exact absurd (List.mem_of_getElem? hi) h1
    | i + 1, j + 1, hi, hj =>
      simp only [List.getElem?_cons_succ] at hi hj
      rw [nd_inj l h2 i j a hi hj]
theorem g_L6 : g_L.all (fun a => Nat.ble (g_cell a).1 6) = true := by decide +kernel
theorem and4 {a b c d : Bool} (h : (a && b && c && d) = true) : a = true ∧ b = true ∧ c = true ∧ d = true := by
  revert h
  cases a <;> cases b <;> cases c <;> cases d <;> decide
theorem opt_get {α : Type} {o : Option α} {d : α} (h : o.isSome = true) : o = some (o.getD d) := by
  cases o with
  | none => cases h
  | some r => rfl
theorem kn_new1 (S : kn_S) (kd n : Nat) : (kn_new S kd n).1 = S.1 + 1 := rfl
theorem kn_n1 : kn_s1.1.1 = 510 ∧ kn_s1.2.1 = 509 ∧ kn_s1.2.2 = 15962 := by
  obtain ⟨h1, h2, h3, h4⟩ := and4 kn_i1
  exact ⟨of_decide_eq_true h2, of_decide_eq_true h3, of_decide_eq_true h4⟩
theorem kn_n2 : kn_s2.1.1 = 529 ∧ kn_s2.2.1 = 18 ∧ kn_s2.2.2 = 97163 := by
  obtain ⟨h1, h2, h3, h4⟩ := and4 kn_i2
  exact ⟨of_decide_eq_true h2, of_decide_eq_true h3, of_decide_eq_true h4⟩
theorem kn_n3 : kn_s3.1 = 530 := by
  unfold kn_s3
  rw [kn_new1, kn_n2.1]
theorem kn_conR (l : Launch) (D : va_G) (cs : am_CS) {f dep o : Nat} {av : List AV} {S : kn_S} {r : kn_S × Nat × Nat} (ho : o < 13) (hcat : ∀ v ∈ av, am_cat v = 1) (hlen : av.length = (kn_mt o).2.2) (h : kn_run f dep o (kn_mt o).1 (am_lv (kn_mt o).2.1 av) [] S 0 0 = some r) : kn_Con l D cs dep o av S r.1 r.2.1 r.2.2 := by
  obtain ⟨S', kc, ks⟩ := r
  exact kn_con l D cs ho hcat hlen h
theorem kn_ref1 {a : Nat} : ∀ v ∈ ([vR a] : List AV), am_cat v = 1 := by
  intro v hv
  rw [List.mem_singleton.mp hv]
  rfl
theorem kn_c1 (l : Launch) (D : va_G) (cs : am_CS) : kn_Con l D cs 3 11 [vR 0] (kn_new kn_0 0 11) kn_s1.1 kn_s1.2.1 kn_s1.2.2 := by
  have h : kn_r1 = some kn_s1 := by
    unfold kn_s1
    exact opt_get (and4 kn_i1).1
  unfold kn_r1 at h
  exact kn_conR l D cs (by omega) kn_ref1 (by decide) h
theorem kn_c2 (l : Launch) (D : va_G) (cs : am_CS) : kn_Con l D cs 1 12 [vR 510] (kn_new kn_s1.1 0 12) kn_s2.1 kn_s2.2.1 kn_s2.2.2 := by
  have h : kn_r2 = some kn_s2 := by
    unfold kn_s2
    exact opt_get (and4 kn_i2).1
  unfold kn_r2 at h
  exact kn_conR l D cs (by omega) kn_ref1 (by decide) h
/-- the naming's addresses in the heap, and back -/
def rh (z a : Nat) : Nat := z + kx a
def ri (z c : Nat) : Nat := ix (c - z)
theorem ri_rh (z a : Nat) : ri z (rh z a) = a := by
  unfold ri rh
  rw [Nat.add_sub_cancel_left, ix_kx]
theorem kn_Wd_ren {D : va_G} {cs : am_CS} {A : Nat → Prop} {s : State} {z : Nat} {H : Heap} {locs : List Loc} (hW : am_Wd D cs A s (kn_M z kn_s3) H locs) : am_Wd D cs A s (am_ren (rh z) (ri z) (gE id0, sg00)) H locs := by
  obtain ⟨hP, hD, hS, -⟩ := hW
  have hi := ri_rh z
  have hget : ∀ (k : Nat) (q : Nat × va_E), (am_W cs (am_ren (rh z) (ri z) (gE id0, sg00)))[k]? = some q → ∃ a, g_L[k]? = some a ∧ q = (rh z a, am_cell cs ((g_cell a).1, (g_cell a).2.1, fun i => (g_ref id0 a i).map (rh z)) (sg00 a)) := by
    intro k q hq
    have hq : ((g_L.map (rh z)).map (fun c => (c, am_cell cs ((am_ren (rh z) (ri z) (gE id0, sg00)).1.2.2 c) ((am_ren (rh z) (ri z) (gE id0, sg00)).2 c))))[k]? = some q := hq
    rw [List.getElem?_map, List.getElem?_map] at hq
    cases e : g_L[k]? with
    | none => rw [e] at hq; cases hq
    | some a =>
      rw [e] at hq
      simp only [Option.map_some, Option.some.injEq] at hq
      refine ⟨a, rfl, hq.symm.trans ?_⟩
      rw [am_rS hi, am_rM hi]
      rfl
  have hat : ∀ a, a ∈ g_L → kx a < kn_s3.1 ∧ va_at D am_cl (rh z a, am_cell cs ((g_cell a).1, (g_cell a).2.1, fun i => (g_ref id0 a i).map (rh z)) (sg00 a)) H := by
    intro a ha
    have h1 := List.all_eq_true.mp kn_chk_all a ha
    simp only [kn_chk, Bool.and_eq_true] at h1
    obtain ⟨⟨⟨⟨c1, c2⟩, c3⟩, c4⟩, c5⟩ := h1
    have c1 : kx a < 530 := by
      have := Nat.le_of_ble_eq_true c1
      omega
    have c2 := Nat.eq_of_beq_eq_true c2
    have c3 := Nat.eq_of_beq_eq_true c3
    have c4 := of_decide_eq_true c4
    have h6 := Nat.le_of_ble_eq_true (List.all_eq_true.mp g_L6 a ha)
    have hk : kx a < kn_s3.1 := by rw [kn_n3]; exact c1
    have h2 := hP (kx a) _ (kn_Wget hk)
    unfold kn_c at h2
    rw [c2, c3, c4] at h2
    refine ⟨hk, kn_at_eq (g_cell a).1 h6 (fun i hi2 => ?_) h2⟩
    have h3 : i < kn_bd a := hi2
    have h4 := of_decide_eq_true (List.all_eq_true.mp c5 i (List.mem_range.mpr h3))
    rw [← h4, Option.map_map]
    rfl
  refine ⟨fun k q hq => ?_, ⟨fun i j x y hx hy hxy => ?_, fun k q hq => ?_⟩, hS, fun n hn => by cases hn⟩
  · obtain ⟨a, h1, rfl⟩ := hget k q hq
    exact (hat a (List.mem_of_getElem? h1)).2
  · obtain ⟨a, h1, rfl⟩ := hget i x hx
    obtain ⟨c, h2, rfl⟩ := hget j y hy
    have e : rh z a = rh z c := hxy
    have e2 : a = c := by rw [← hi a, e, hi c]
    subst e2
    exact nd_inj g_L g_L_nd i j a h1 h2
  · obtain ⟨a, h1, rfl⟩ := hget k q hq
    exact hD.2 (kx a) (z + kx a, kn_c cs z kn_s3 (kx a)) (kn_Wget (hat a (List.mem_of_getElem? h1)).1)
