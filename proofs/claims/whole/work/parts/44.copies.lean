/-! COPIES (made by wip/whole/gen44.py) -/
def cpr (sg : Mg) (a b n : Nat) : Mg := va_up sg b (va_cpy (sg a) (sg b) 0 0 n)
theorem cpr_ne {sg : Mg} {a b n c : Nat} (h : c ≠ b) : cpr sg a b n c = sg c := va_up_ne _ _ h
theorem cpr_at {sg : Mg} {a b n i : Nat} (h : i < n) : cpr sg a b n b i = sg a i := by
  unfold cpr
  rw [va_up_self]
  unfold va_cpy
  rw [if_pos ⟨Nat.zero_le _, by omega⟩]
  congr 1
  omega
def cprs (sg : Mg) (a0 b0 m : Nat) : Nat → Mg
  | 0 => sg
  | k + 1 => cpr (cprs sg a0 b0 m k) (a0 + k) (b0 + k) m
theorem cprs_ne {sg : Mg} {a0 b0 m c : Nat} : ∀ {n : Nat}, (c < b0 ∨ b0 + n ≤ c) → cprs sg a0 b0 m n c = sg c
  | 0, _ => rfl
  | n + 1, h => by
    show cpr _ _ _ _ c = sg c
    rw [cpr_ne (by omega), cprs_ne (by omega)]
theorem cprs_at {sg : Mg} {a0 b0 m k i : Nat} (hab : ∀ q, a0 + q < b0 ∨ b0 + 12 ≤ a0 + q ∨ 12 ≤ q) (hi : i < m) : ∀ {n : Nat}, n ≤ 12 → k < n → cprs sg a0 b0 m n (b0 + k) i = sg (a0 + k) i
  | 0, _, h => absurd h (Nat.not_lt_zero _)
  | n + 1, hn, h => by
    show cpr _ _ _ _ (b0 + k) i = _
    by_cases e : k = n
    · subst e
      rw [cpr_at hi, cprs_ne (by have := hab k; omega)]
    · rw [cpr_ne (by omega), cprs_at hab hi (by omega) (by omega)]
theorem s_132 {X : Nat × (Nat → Int32)} {d : Nat} {p : Nat → Nat} {sg : Mg} {a b n : Nat} (ha : am_A (gE p) a 1 n) (hb : am_A (gE p) b 1 n) (hn : n ≤ 1000) : gF X (d + 2) 132 [vR a, vR b] p sg (fun r => r = gR0 p (cpr sg a b n)) := by
  refine g_in (cd := k_132) (nL := 2) (rc := 0) rfl trivial (g_c1 rfl) ?_
  show gW X (d + 1) k_132 0 [some (vR a), some (vR b)] [] p sg _
  refine g_pure 5 (i' := 5) (lv' := [some (vR a), some (vR b)]) (st' := [vR a, vI 0, vR b, vI 0, vR a]) rfl ?_
  refine g_len rfl (by decide) (by decide) ha ?_
  refine g_pure 1 (i' := 7) (lv' := [some (vR a), some (vR b)]) (st' := [vR b, vI (nI n), vI 0, vR b, vI 0, vR a]) rfl ?_
  refine g_len rfl (by decide) (by decide) hb ?_
  refine g_cS1 rfl (args := [vI (nI n), vI (nI n)]) (rest := [vI 0, vR b, vI 0, vR a]) rfl rfl rfl (s_313n (d := d) (by omega) (by omega)) ?_
  refine g_copy (n := n) (s0 := 0) (d0 := 0) rfl ha hb rfl rfl (congrArg nI (Nat.min_self n)) (by omega) (by omega) (by omega) (by omega) rfl ?_
  exact g_vret rfl rfl
theorem s_131 {X : Nat × (Nat → Int32)} {d : Nat} {p : Nat → Nat} {sg : Mg} {a b a0 b0 n m : Nat} (ha : am_A (gE p) a 5 n) (hb : am_A (gE p) b 5 n) (hm : m ≤ 1000) (hn : n ≤ 1000) (ra : ∀ k, k < n → g_ref p a k = some (a0 + k) ∧ am_A (gE p) (a0 + k) 1 m) (rb : ∀ k, k < n → g_ref p b k = some (b0 + k) ∧ am_A (gE p) (b0 + k) 1 m) : gF X (d + 3) 131 [vR a, vR b] p sg (fun r => r = gR0 p (cprs sg a0 b0 m n)) := by
  refine g_in (cd := k_131) (nL := 3) (rc := 0) rfl trivial (g_c1 rfl) ?_
  show gW X (d + 2) k_131 0 [some (vR a), some (vR b), none] [] p sg _
  refine g_pure 2 (i' := 2) (lv' := [some (vR a), some (vR b), some (vI (nI 0))]) (st' := []) rfl ?_
  refine g_upI (P := fun k => gW X (d + 2) k_131 2 [some (vR a), some (vR b), some (vI (nI k))] [] p (cprs sg a0 b0 m k) (fun r => r = gR0 p (cprs sg a0 b0 m n))) (I := fun _ => True) (n := n) (a := 0) (by omega) trivial (fun k _ hk _ ih => ?_) (fun _ => ?_)
  · refine g_pure 2 (i' := 4) (lv' := [some (vR a), some (vR b), some (vI (nI k))]) (st' := [vR a, vI (nI k)]) rfl ?_
    refine g_len rfl (by decide) (by decide) ha ?_
    refine g_if2 (i' := 19) (P := n ≤ k) rfl rfl (g_geN rfl rfl (by omega) (by omega)) (fun h => by omega) (fun _ => ?_)
    refine g_pure 2 (i' := 8) (lv' := [some (vR a), some (vR b), some (vI (nI k))]) (st' := [vR b, vI (nI k)]) rfl ?_
    refine g_len rfl (by decide) (by decide) hb ?_
    refine g_if2 (i' := 19) (P := n ≤ k) rfl rfl (g_geN rfl rfl (by omega) (by omega)) (fun h => by omega) (fun _ => ?_)
    refine g_pure 2 (i' := 12) (lv' := [some (vR a), some (vR b), some (vI (nI k))]) (st' := [vI (nI k), vR a]) rfl ?_
    refine g_aald rfl (Or.inl rfl) ha (by omega) rfl hk (ra k hk).1 ?_
    refine g_pure 2 (i' := 15) (lv' := [some (vR a), some (vR b), some (vI (nI k))]) (st' := [vI (nI k), vR b, vR (a0 + k)]) rfl ?_
    refine g_aald rfl (Or.inl rfl) hb (by omega) rfl hk (rb k hk).1 ?_
    refine g_cS0 rfl (args := [vR (a0 + k), vR (b0 + k)]) (rest := []) rfl rfl rfl (s_132 (d := d) (ra k hk).2 (rb k hk).2 hm) ?_
    refine g_pure 2 (i' := 2) (lv' := [some (vR a), some (vR b), some (vI (nI k + 1))]) (st' := []) rfl ?_
    refine gW_eq (lv' := [some (vR a), some (vR b), some (vI (nI (k + 1)))]) (by rw [nI_succ]) rfl rfl ?_
    exact ih trivial
  · refine g_pure 2 (i' := 4) (lv' := [some (vR a), some (vR b), some (vI (nI n))]) (st' := [vR a, vI (nI n)]) rfl ?_
    refine g_len rfl (by decide) (by decide) ha ?_
    refine g_if2 (i' := 19) (P := n ≤ n) rfl rfl (g_geN rfl rfl (by omega) (by omega)) (fun _ => ?_) (fun h => by omega)
    exact g_vret rfl rfl
/-- the lives -/
def isLife (l : Nat) : Prop := l = 250 ∨ l = 350 ∨ l = 450 ∨ ∃ q, q < 12 ∧ l = 500 + 20 * q
theorem isLife_mem {l : Nat} (h : isLife l) : l ∈ [250, 350, 450, 500, 520, 540, 560, 580, 600, 620, 640, 660, 680, 700, 720] := by
  rcases h with rfl | rfl | rfl | ⟨q, hq, rfl⟩
  · decide
  · decide
  · decide
  · have h9 : ∀ q, q < 12 → (500 + 20 * q) ∈ [250, 350, 450, 500, 520, 540, 560, 580, 600, 620, 640, 660, 680, 700, 720] := by decide
    exact h9 q hq
theorem g_refp {p : Nat → Nat} {a k : Nat} (h : a ≠ 3) : g_ref p a k = g_ref (fun _ => 0) a k := by
  unfold g_ref
  rw [if_neg h, if_neg h]
theorem lf_obj {p : Nat → Nat} {l : Nat} (h : isLife l) : am_A (gE p) l 0 6 := by
  have h9 : ∀ l ∈ [250, 350, 450, 500, 520, 540, 560, 580, 600, 620, 640, 660, 680, 700, 720], g_is l 0 6 = true := by decide +kernel
  exact g_A (h9 l (isLife_mem h)) (by decide)
theorem lf_ref {p : Nat → Nat} {l k : Nat} (h : isLife l) (hk : k < 11) : g_ref p l k = some (l + 1 + k) := by
  have h9 : ∀ l ∈ [250, 350, 450, 500, 520, 540, 560, 580, 600, 620, 640, 660, 680, 700, 720], ∀ k, k < 11 → l ≠ 3 ∧ g_ref (fun _ => 0) l k = some (l + 1 + k) := by decide +kernel
  have h1 := h9 l (isLife_mem h) k hk
  rw [g_refp h1.1]; exact h1.2
theorem lf_row {p : Nat → Nat} {l k : Nat} (h : isLife l) (hk : k < 9) : am_A (gE p) (l + 2 + k) 1 8 := by
  have h9 : ∀ l ∈ [250, 350, 450, 500, 520, 540, 560, 580, 600, 620, 640, 660, 680, 700, 720], ∀ k, k < 9 → g_is (l + 2 + k) 1 8 = true := by decide +kernel
  exact g_A (h9 l (isLife_mem h) k hk) (by decide)
theorem lf_log {p : Nat → Nat} {l : Nat} (h : isLife l) : am_A (gE p) (l + 11) 1 400 := by
  have h9 : ∀ l ∈ [250, 350, 450, 500, 520, 540, 560, 580, 600, 620, 640, 660, 680, 700, 720], g_is (l + 11) 1 400 = true := by decide +kernel
  exact g_A (h9 l (isLife_mem h)) (by decide)
theorem lf_tab {p : Nat → Nat} {l : Nat} (h : isLife l) : am_A (gE p) (l + 1) 5 6 ∧ ∀ k, k < 6 → g_ref p (l + 1) k = some (l + 12 + k) ∧ am_A (gE p) (l + 12 + k) 1 16 := by
  have h9 : ∀ l ∈ [250, 350, 450, 500, 520, 540, 560, 580, 600, 620, 640, 660, 680, 700, 720], l + 1 ≠ 3 ∧ g_is (l + 1) 5 6 = true ∧ ∀ k, k < 6 → g_ref (fun _ => 0) (l + 1) k = some (l + 12 + k) ∧ g_is (l + 12 + k) 1 16 = true := by decide +kernel
  have h1 := h9 l (isLife_mem h)
  refine ⟨g_A h1.2.1 (by decide), fun k hk => ⟨?_, g_A (h1.2.2 k hk).2 (by decide)⟩⟩
  rw [g_refp h1.1]; exact (h1.2.2 k hk).1

theorem g_setv' {X : Nat × (Nat → Int32)} {d : Nat} {cd : List am_CE} {i : Nat} {lv : List (Option AV)} {st : List AV} {p : Nat → Nat} {sg : Mg} {Q : am_R → Prop} (g : ∀ s, s = sg → gW X d cd i lv st p s Q) : gW X d cd i lv st p sg Q := g _ rfl
/-- Life.copyFrom -/
theorem s_55 {X : Nat × (Nat → Int32)} {d : Nat} {p : Nat → Nat} {sg : Mg} {l q : Nat} (hl : isLife l) (hq : isLife q) (hne : l + 18 ≤ q ∨ q + 18 ≤ l) : gF X (d + 4) 55 [vR l, vR q] p sg (fun r => ∃ s, ((∀ c, c < l ∨ l + 18 ≤ c → s c = sg c) ∧ ∀ S, sn S 14 ≤ 100 → cwL q sg S → cwL l s S) ∧ r = gR0 p s) := by
  refine g_in (cd := k_55) (nL := 2) (rc := 7) rfl (lf_obj hl) (g_c1 rfl) ?_
  show gW X (d + 3) k_55 0 [some (vR l), some (vR q)] [] p sg _
  refine g_pure 1 (i' := 1) (lv' := [some (vR l), some (vR q)]) (st' := [vR q]) rfl ?_
  refine g_getR rfl (lf_obj hq) (lf_ref hq (k := 0) (by decide)) ?_
  refine g_pure 1 (i' := 3) (lv' := [some (vR l), some (vR q)]) (st' := [vR l, vR (q + 1 + 0)]) rfl ?_
  refine g_getR rfl (lf_obj hl) (lf_ref hl (k := 0) (by decide)) ?_
  refine g_cS0 rfl (args := [vR (q + 1 + 0), vR (l + 1 + 0)]) (rest := []) rfl rfl rfl (s_131 (d := d) (a0 := q + 12) (b0 := l + 12) (n := 6) (m := 16) (lf_tab hq).1 (lf_tab hl).1 (by decide) (by decide) (lf_tab hq).2 (lf_tab hl).2) ?_
  refine g_setv' (fun s0 e0 => ?_)
  refine g_pure 1 (i' := 6) (lv' := [some (vR l), some (vR q)]) (st' := [vR q]) rfl ?_
  refine g_getR rfl (lf_obj hq) (lf_ref hq (k := 1) (by decide)) ?_
  refine g_pure 1 (i' := 8) (lv' := [some (vR l), some (vR q)]) (st' := [vR l, vR (q + 1 + 1)]) rfl ?_
  refine g_getR rfl (lf_obj hl) (lf_ref hl (k := 1) (by decide)) ?_
  refine g_cS0 rfl (args := [vR (q + 1 + 1), vR (l + 1 + 1)]) (rest := []) rfl rfl rfl (s_132 (d := d + 1) (show am_A (gE p) (q + 1 + 1) 1 8 from lf_row hq (k := 0) (by decide)) (show am_A (gE p) (l + 1 + 1) 1 8 from lf_row hl (k := 0) (by decide)) (by decide)) ?_
  refine g_setv' (fun s1 e1 => ?_)
  refine g_pure 1 (i' := 11) (lv' := [some (vR l), some (vR q)]) (st' := [vR q]) rfl ?_
  refine g_getR rfl (lf_obj hq) (lf_ref hq (k := 2) (by decide)) ?_
  refine g_pure 1 (i' := 13) (lv' := [some (vR l), some (vR q)]) (st' := [vR l, vR (q + 1 + 2)]) rfl ?_
  refine g_getR rfl (lf_obj hl) (lf_ref hl (k := 2) (by decide)) ?_
  refine g_cS0 rfl (args := [vR (q + 1 + 2), vR (l + 1 + 2)]) (rest := []) rfl rfl rfl (s_132 (d := d + 1) (show am_A (gE p) (q + 1 + 2) 1 8 from lf_row hq (k := 1) (by decide)) (show am_A (gE p) (l + 1 + 2) 1 8 from lf_row hl (k := 1) (by decide)) (by decide)) ?_
  refine g_setv' (fun s2 e2 => ?_)
  refine g_pure 1 (i' := 16) (lv' := [some (vR l), some (vR q)]) (st' := [vR q]) rfl ?_
  refine g_getR rfl (lf_obj hq) (lf_ref hq (k := 3) (by decide)) ?_
  refine g_pure 1 (i' := 18) (lv' := [some (vR l), some (vR q)]) (st' := [vR l, vR (q + 1 + 3)]) rfl ?_
  refine g_getR rfl (lf_obj hl) (lf_ref hl (k := 3) (by decide)) ?_
  refine g_cS0 rfl (args := [vR (q + 1 + 3), vR (l + 1 + 3)]) (rest := []) rfl rfl rfl (s_132 (d := d + 1) (show am_A (gE p) (q + 1 + 3) 1 8 from lf_row hq (k := 2) (by decide)) (show am_A (gE p) (l + 1 + 3) 1 8 from lf_row hl (k := 2) (by decide)) (by decide)) ?_
  refine g_setv' (fun s3 e3 => ?_)
  refine g_pure 1 (i' := 21) (lv' := [some (vR l), some (vR q)]) (st' := [vR q]) rfl ?_
  refine g_getR rfl (lf_obj hq) (lf_ref hq (k := 4) (by decide)) ?_
  refine g_pure 1 (i' := 23) (lv' := [some (vR l), some (vR q)]) (st' := [vR l, vR (q + 1 + 4)]) rfl ?_
  refine g_getR rfl (lf_obj hl) (lf_ref hl (k := 4) (by decide)) ?_
  refine g_cS0 rfl (args := [vR (q + 1 + 4), vR (l + 1 + 4)]) (rest := []) rfl rfl rfl (s_132 (d := d + 1) (show am_A (gE p) (q + 1 + 4) 1 8 from lf_row hq (k := 3) (by decide)) (show am_A (gE p) (l + 1 + 4) 1 8 from lf_row hl (k := 3) (by decide)) (by decide)) ?_
  refine g_setv' (fun s4 e4 => ?_)
  refine g_pure 1 (i' := 26) (lv' := [some (vR l), some (vR q)]) (st' := [vR q]) rfl ?_
  refine g_getR rfl (lf_obj hq) (lf_ref hq (k := 5) (by decide)) ?_
  refine g_pure 1 (i' := 28) (lv' := [some (vR l), some (vR q)]) (st' := [vR l, vR (q + 1 + 5)]) rfl ?_
  refine g_getR rfl (lf_obj hl) (lf_ref hl (k := 5) (by decide)) ?_
  refine g_cS0 rfl (args := [vR (q + 1 + 5), vR (l + 1 + 5)]) (rest := []) rfl rfl rfl (s_132 (d := d + 1) (show am_A (gE p) (q + 1 + 5) 1 8 from lf_row hq (k := 4) (by decide)) (show am_A (gE p) (l + 1 + 5) 1 8 from lf_row hl (k := 4) (by decide)) (by decide)) ?_
  refine g_setv' (fun s5 e5 => ?_)
  refine g_pure 1 (i' := 31) (lv' := [some (vR l), some (vR q)]) (st' := [vR q]) rfl ?_
  refine g_getR rfl (lf_obj hq) (lf_ref hq (k := 6) (by decide)) ?_
  refine g_pure 1 (i' := 33) (lv' := [some (vR l), some (vR q)]) (st' := [vR l, vR (q + 1 + 6)]) rfl ?_
  refine g_getR rfl (lf_obj hl) (lf_ref hl (k := 6) (by decide)) ?_
  refine g_cS0 rfl (args := [vR (q + 1 + 6), vR (l + 1 + 6)]) (rest := []) rfl rfl rfl (s_132 (d := d + 1) (show am_A (gE p) (q + 1 + 6) 1 8 from lf_row hq (k := 5) (by decide)) (show am_A (gE p) (l + 1 + 6) 1 8 from lf_row hl (k := 5) (by decide)) (by decide)) ?_
  refine g_setv' (fun s6 e6 => ?_)
  refine g_pure 1 (i' := 36) (lv' := [some (vR l), some (vR q)]) (st' := [vR q]) rfl ?_
  refine g_getR rfl (lf_obj hq) (lf_ref hq (k := 7) (by decide)) ?_
  refine g_pure 1 (i' := 38) (lv' := [some (vR l), some (vR q)]) (st' := [vR l, vR (q + 1 + 7)]) rfl ?_
  refine g_getR rfl (lf_obj hl) (lf_ref hl (k := 7) (by decide)) ?_
  refine g_cS0 rfl (args := [vR (q + 1 + 7), vR (l + 1 + 7)]) (rest := []) rfl rfl rfl (s_132 (d := d + 1) (show am_A (gE p) (q + 1 + 7) 1 8 from lf_row hq (k := 6) (by decide)) (show am_A (gE p) (l + 1 + 7) 1 8 from lf_row hl (k := 6) (by decide)) (by decide)) ?_
  refine g_setv' (fun s7 e7 => ?_)
  refine g_pure 1 (i' := 41) (lv' := [some (vR l), some (vR q)]) (st' := [vR q]) rfl ?_
  refine g_getR rfl (lf_obj hq) (lf_ref hq (k := 8) (by decide)) ?_
  refine g_pure 1 (i' := 43) (lv' := [some (vR l), some (vR q)]) (st' := [vR l, vR (q + 1 + 8)]) rfl ?_
  refine g_getR rfl (lf_obj hl) (lf_ref hl (k := 8) (by decide)) ?_
  refine g_cS0 rfl (args := [vR (q + 1 + 8), vR (l + 1 + 8)]) (rest := []) rfl rfl rfl (s_132 (d := d + 1) (show am_A (gE p) (q + 1 + 8) 1 8 from lf_row hq (k := 7) (by decide)) (show am_A (gE p) (l + 1 + 8) 1 8 from lf_row hl (k := 7) (by decide)) (by decide)) ?_
  refine g_setv' (fun s8 e8 => ?_)
  refine g_pure 1 (i' := 46) (lv' := [some (vR l), some (vR q)]) (st' := [vR q]) rfl ?_
  refine g_getR rfl (lf_obj hq) (lf_ref hq (k := 9) (by decide)) ?_
  refine g_pure 1 (i' := 48) (lv' := [some (vR l), some (vR q)]) (st' := [vR l, vR (q + 1 + 9)]) rfl ?_
  refine g_getR rfl (lf_obj hl) (lf_ref hl (k := 9) (by decide)) ?_
  refine g_cS0 rfl (args := [vR (q + 1 + 9), vR (l + 1 + 9)]) (rest := []) rfl rfl rfl (s_132 (d := d + 1) (show am_A (gE p) (q + 1 + 9) 1 8 from lf_row hq (k := 8) (by decide)) (show am_A (gE p) (l + 1 + 9) 1 8 from lf_row hl (k := 8) (by decide)) (by decide)) ?_
  refine g_setv' (fun s9 e9 => ?_)
  refine g_pure 1 (i' := 51) (lv' := [some (vR l), some (vR q)]) (st' := [vR q]) rfl ?_
  refine g_getR rfl (lf_obj hq) (lf_ref hq (k := 10) (by decide)) ?_
  refine g_pure 1 (i' := 53) (lv' := [some (vR l), some (vR q)]) (st' := [vR l, vR (q + 1 + 10)]) rfl ?_
  refine g_getR rfl (lf_obj hl) (lf_ref hl (k := 10) (by decide)) ?_
  refine g_cS0 rfl (args := [vR (q + 1 + 10), vR (l + 1 + 10)]) (rest := []) rfl rfl rfl (s_132 (d := d + 1) (show am_A (gE p) (q + 1 + 10) 1 400 from lf_log hq) (show am_A (gE p) (l + 1 + 10) 1 400 from lf_log hl) (by decide)) ?_
  refine g_setv' (fun s10 e10 => ?_)
  refine g_pure 2 (i' := 57) (lv' := [some (vR l), some (vR q)]) (st' := [vR q, vR l]) rfl ?_
  refine g_getI rfl (lf_obj hq) rfl ?_
  refine g_putI rfl (lf_obj hl) ?_
  refine g_setv' (fun t0 f0 => ?_)
  refine g_pure 2 (i' := 61) (lv' := [some (vR l), some (vR q)]) (st' := [vR q, vR l]) rfl ?_
  refine g_getI rfl (lf_obj hq) rfl ?_
  refine g_putI rfl (lf_obj hl) ?_
  refine g_setv' (fun t1 f1 => ?_)
  refine g_pure 2 (i' := 65) (lv' := [some (vR l), some (vR q)]) (st' := [vR q, vR l]) rfl ?_
  refine g_getI rfl (lf_obj hq) rfl ?_
  refine g_putI rfl (lf_obj hl) ?_
  refine g_setv' (fun t2 f2 => ?_)
  refine g_pure 2 (i' := 69) (lv' := [some (vR l), some (vR q)]) (st' := [vR q, vR l]) rfl ?_
  refine g_getI rfl (lf_obj hq) rfl ?_
  refine g_putI rfl (lf_obj hl) ?_
  refine g_setv' (fun t3 f3 => ?_)
  refine g_pure 2 (i' := 73) (lv' := [some (vR l), some (vR q)]) (st' := [vR q, vR l]) rfl ?_
  refine g_getI rfl (lf_obj hq) rfl ?_
  refine g_putI rfl (lf_obj hl) ?_
  refine g_setv' (fun t4 f4 => ?_)
  refine g_vret rfl ?_
  refine ⟨t4, ⟨fun c hc => ?_, fun S h14 h => ?_⟩, rfl⟩
  · rw [f4, mu_ne (by omega), f3, mu_ne (by omega), f2, mu_ne (by omega), f1, mu_ne (by omega), f0, mu_ne (by omega), e10, cpr_ne (by omega), e9, cpr_ne (by omega), e8, cpr_ne (by omega), e7, cpr_ne (by omega), e6, cpr_ne (by omega), e5, cpr_ne (by omega), e4, cpr_ne (by omega), e3, cpr_ne (by omega), e2, cpr_ne (by omega), e1, cpr_ne (by omega), e0, cprs_ne (by omega)]
  · have hA : ∀ c, c ≠ l → t4 c = s10 c := fun c hc => by rw [f4, mu_ne hc, f3, mu_ne hc, f2, mu_ne hc, f1, mu_ne hc, f0, mu_ne hc]
    have hB : ∀ c, c < l + 12 ∨ l + 18 ≤ c → s0 c = sg c := fun c hc => by rw [e0, cprs_ne (by omega)]
    have hq : ∀ k, k < 18 → s0 (q + k) = sg (q + k) := fun k hk => hB _ (by omega)
    have hC : ∀ c, c ≤ l + 1 ∨ l + 12 ≤ c → s10 c = s0 c := fun c hc => by rw [e10, cpr_ne (by omega), e9, cpr_ne (by omega), e8, cpr_ne (by omega), e7, cpr_ne (by omega), e6, cpr_ne (by omega), e5, cpr_ne (by omega), e4, cpr_ne (by omega), e3, cpr_ne (by omega), e2, cpr_ne (by omega), e1, cpr_ne (by omega)]
    have hq10 : s10 q = sg q := (hC q (by omega)).trans (hq 0 (by omega))
    have hQ : ∀ k i, 1 ≤ k → k ≤ 10 → i < (if k = 10 then 400 else 8) → t4 (l + 1 + k) i = sg (q + 1 + k) i := by
      intro k i h1 h2 hi
      rw [hA _ (by omega)]
      rcases (show k = 1 ∨ k = 2 ∨ k = 3 ∨ k = 4 ∨ k = 5 ∨ k = 6 ∨ k = 7 ∨ k = 8 ∨ k = 9 ∨ k = 10 by omega) with rfl | rfl | rfl | rfl | rfl | rfl | rfl | rfl | rfl | rfl
      all_goals simp only [if_false, if_true, Nat.reduceEqDiff] at hi
      · rw [e10, cpr_ne (by omega), e9, cpr_ne (by omega), e8, cpr_ne (by omega), e7, cpr_ne (by omega), e6, cpr_ne (by omega), e5, cpr_ne (by omega), e4, cpr_ne (by omega), e3, cpr_ne (by omega), e2, cpr_ne (by omega), e1, cpr_at hi, hB _ (by omega)]
      · rw [e10, cpr_ne (by omega), e9, cpr_ne (by omega), e8, cpr_ne (by omega), e7, cpr_ne (by omega), e6, cpr_ne (by omega), e5, cpr_ne (by omega), e4, cpr_ne (by omega), e3, cpr_ne (by omega), e2, cpr_at hi, e1, cpr_ne (by omega), hB _ (by omega)]
      · rw [e10, cpr_ne (by omega), e9, cpr_ne (by omega), e8, cpr_ne (by omega), e7, cpr_ne (by omega), e6, cpr_ne (by omega), e5, cpr_ne (by omega), e4, cpr_ne (by omega), e3, cpr_at hi, e2, cpr_ne (by omega), e1, cpr_ne (by omega), hB _ (by omega)]
      · rw [e10, cpr_ne (by omega), e9, cpr_ne (by omega), e8, cpr_ne (by omega), e7, cpr_ne (by omega), e6, cpr_ne (by omega), e5, cpr_ne (by omega), e4, cpr_at hi, e3, cpr_ne (by omega), e2, cpr_ne (by omega), e1, cpr_ne (by omega), hB _ (by omega)]
      · rw [e10, cpr_ne (by omega), e9, cpr_ne (by omega), e8, cpr_ne (by omega), e7, cpr_ne (by omega), e6, cpr_ne (by omega), e5, cpr_at hi, e4, cpr_ne (by omega), e3, cpr_ne (by omega), e2, cpr_ne (by omega), e1, cpr_ne (by omega), hB _ (by omega)]
      · rw [e10, cpr_ne (by omega), e9, cpr_ne (by omega), e8, cpr_ne (by omega), e7, cpr_ne (by omega), e6, cpr_at hi, e5, cpr_ne (by omega), e4, cpr_ne (by omega), e3, cpr_ne (by omega), e2, cpr_ne (by omega), e1, cpr_ne (by omega), hB _ (by omega)]
      · rw [e10, cpr_ne (by omega), e9, cpr_ne (by omega), e8, cpr_ne (by omega), e7, cpr_at hi, e6, cpr_ne (by omega), e5, cpr_ne (by omega), e4, cpr_ne (by omega), e3, cpr_ne (by omega), e2, cpr_ne (by omega), e1, cpr_ne (by omega), hB _ (by omega)]
      · rw [e10, cpr_ne (by omega), e9, cpr_ne (by omega), e8, cpr_at hi, e7, cpr_ne (by omega), e6, cpr_ne (by omega), e5, cpr_ne (by omega), e4, cpr_ne (by omega), e3, cpr_ne (by omega), e2, cpr_ne (by omega), e1, cpr_ne (by omega), hB _ (by omega)]
      · rw [e10, cpr_ne (by omega), e9, cpr_at hi, e8, cpr_ne (by omega), e7, cpr_ne (by omega), e6, cpr_ne (by omega), e5, cpr_ne (by omega), e4, cpr_ne (by omega), e3, cpr_ne (by omega), e2, cpr_ne (by omega), e1, cpr_ne (by omega), hB _ (by omega)]
      · rw [e10, cpr_at hi, e9, cpr_ne (by omega), e8, cpr_ne (by omega), e7, cpr_ne (by omega), e6, cpr_ne (by omega), e5, cpr_ne (by omega), e4, cpr_ne (by omega), e3, cpr_ne (by omega), e2, cpr_ne (by omega), e1, cpr_ne (by omega), hB _ (by omega)]
    refine ⟨fun v w hv hw => ?_, fun j k hj hk => ?_, fun k hk => ?_, fun j k hj hk => ?_, ⟨?_, ?_, ?_, ?_, ?_⟩, fun k j hk hj => ?_⟩
    · rw [hA _ (by omega), hC _ (by omega), e0, cprs_at (fun z => by omega) hw (by omega) hv]
      exact h.tab hv hw
    · have := hQ (j + 1) k (by omega) (by omega) (by rw [if_neg (by omega)]; omega)
      rw [show l + 1 + (j + 1) = l + 2 + j by omega, show q + 1 + (j + 1) = q + 2 + j by omega] at this
      rw [this]; exact h.per j hj hk
    · have := hQ 7 k (by omega) (by omega) (by rw [if_neg (by omega)]; omega)
      exact this.trans (h.mis hk)
    · have := hQ (j + 8) k (by omega) (by omega) (by rw [if_neg (by omega)]; omega)
      rw [show l + 1 + (j + 8) = l + 9 + j by omega, show q + 1 + (j + 8) = q + 9 + j by omega] at this
      rw [this]; exact h.don j hj hk
    · rw [f4, mu_idx (by decide), f3, mu_idx (by decide), f2, mu_idx (by decide), f1, mu_idx (by decide), f0, mu_self, hq10]; exact h.f11
    · rw [f4, mu_idx (by decide), f3, mu_idx (by decide), f2, mu_idx (by decide), f1, mu_self, f0, mu_ne (by omega), hq10]; exact h.f12
    · rw [f4, mu_idx (by decide), f3, mu_idx (by decide), f2, mu_self, f1, mu_ne (by omega), f0, mu_ne (by omega), hq10]; exact h.f13
    · rw [f4, mu_idx (by decide), f3, mu_self, f2, mu_ne (by omega), f1, mu_ne (by omega), f0, mu_ne (by omega), hq10]; exact h.f14
    · rw [f4, mu_self, f3, mu_ne (by omega), f2, mu_ne (by omega), f1, mu_ne (by omega), f0, mu_ne (by omega), hq10]; exact h.f15
    · have b := hQ 10 (4 * (sn S 14 - 1 - k) + j) (by omega) (by omega)
      rw [if_pos rfl] at b
      exact (b (by omega)).trans (h.log j hk hj)

/-- the worlds -/
def isWd (w : Nat) : Prop := w = 200 ∨ w = 300 ∨ w = 400
theorem isWd_mem {w : Nat} (h : isWd w) : w ∈ [200, 300, 400] := by
  rcases h with rfl | rfl | rfl <;> decide

theorem ld_obj {p : Nat → Nat} {w : Nat} (h : isWd w) : am_A (gE p) (w + 2) 0 3 := by
  have h9 : ∀ w ∈ [200, 300, 400], g_is (w + 2) 0 3 = true := by decide +kernel
  exact g_A (h9 w (isWd_mem h)) (by decide)

theorem ld_f0 {p : Nat → Nat} {w : Nat} (h : isWd w) : g_ref p (w + 2) 0 = some (w + 3) ∧ am_A (gE p) (w + 3) 1 6 := by
  have h9 : ∀ w ∈ [200, 300, 400], w + 2 ≠ 3 ∧ g_ref (fun _ => 0) (w + 2) 0 = some (w + 3) ∧ g_is (w + 3) 1 6 = true := by decide +kernel
  have h1 := h9 w (isWd_mem h)
  exact ⟨by rw [g_refp h1.1]; exact h1.2.1, g_A h1.2.2 (by decide)⟩

theorem ld_f1 {p : Nat → Nat} {w : Nat} (h : isWd w) : g_ref p (w + 2) 1 = some (w + 4) ∧ am_A (gE p) (w + 4) 5 8 := by
  have h9 : ∀ w ∈ [200, 300, 400], w + 2 ≠ 3 ∧ g_ref (fun _ => 0) (w + 2) 1 = some (w + 4) ∧ g_is (w + 4) 5 8 = true := by decide +kernel
  have h1 := h9 w (isWd_mem h)
  exact ⟨by rw [g_refp h1.1]; exact h1.2.1, g_A h1.2.2 (by decide)⟩

theorem ld_r1 {p : Nat → Nat} {w : Nat} (h : isWd w) : ∀ k, k < 8 → g_ref p (w + 4) k = some (w + 14 + k) ∧ am_A (gE p) (w + 14 + k) 1 2 := by
  have h9 : ∀ w ∈ [200, 300, 400], w + 4 ≠ 3 ∧ ∀ k, k < 8 → g_ref (fun _ => 0) (w + 4) k = some (w + 14 + k) ∧ g_is (w + 14 + k) 1 2 = true := by decide +kernel
  intro k hk
  have h1 := h9 w (isWd_mem h)
  exact ⟨by rw [g_refp h1.1]; exact (h1.2 k hk).1, g_A (h1.2 k hk).2 (by decide)⟩

theorem ld_f2 {p : Nat → Nat} {w : Nat} (h : isWd w) : g_ref p (w + 2) 2 = some (w + 5) ∧ am_A (gE p) (w + 5) 5 12 := by
  have h9 : ∀ w ∈ [200, 300, 400], w + 2 ≠ 3 ∧ g_ref (fun _ => 0) (w + 2) 2 = some (w + 5) ∧ g_is (w + 5) 5 12 = true := by decide +kernel
  have h1 := h9 w (isWd_mem h)
  exact ⟨by rw [g_refp h1.1]; exact h1.2.1, g_A h1.2.2 (by decide)⟩

theorem ld_r2 {p : Nat → Nat} {w : Nat} (h : isWd w) : ∀ k, k < 12 → g_ref p (w + 5) k = some (w + 22 + k) ∧ am_A (gE p) (w + 22 + k) 1 3 := by
  have h9 : ∀ w ∈ [200, 300, 400], w + 5 ≠ 3 ∧ ∀ k, k < 12 → g_ref (fun _ => 0) (w + 5) k = some (w + 22 + k) ∧ g_is (w + 22 + k) 1 3 = true := by decide +kernel
  intro k hk
  have h1 := h9 w (isWd_mem h)
  exact ⟨by rw [g_refp h1.1]; exact (h1.2 k hk).1, g_A (h1.2 k hk).2 (by decide)⟩

theorem ld_f3 {p : Nat → Nat} {w : Nat} (h : isWd w) : g_ref p (w + 2) 3 = some (w + 6) ∧ am_A (gE p) (w + 6) 5 8 := by
  have h9 : ∀ w ∈ [200, 300, 400], w + 2 ≠ 3 ∧ g_ref (fun _ => 0) (w + 2) 3 = some (w + 6) ∧ g_is (w + 6) 5 8 = true := by decide +kernel
  have h1 := h9 w (isWd_mem h)
  exact ⟨by rw [g_refp h1.1]; exact h1.2.1, g_A h1.2.2 (by decide)⟩

theorem ld_r3 {p : Nat → Nat} {w : Nat} (h : isWd w) : ∀ k, k < 8 → g_ref p (w + 6) k = some (w + 34 + k) ∧ am_A (gE p) (w + 34 + k) 1 6 := by
  have h9 : ∀ w ∈ [200, 300, 400], w + 6 ≠ 3 ∧ ∀ k, k < 8 → g_ref (fun _ => 0) (w + 6) k = some (w + 34 + k) ∧ g_is (w + 34 + k) 1 6 = true := by decide +kernel
  intro k hk
  have h1 := h9 w (isWd_mem h)
  exact ⟨by rw [g_refp h1.1]; exact (h1.2 k hk).1, g_A (h1.2 k hk).2 (by decide)⟩

theorem ld_f4 {p : Nat → Nat} {w : Nat} (h : isWd w) : g_ref p (w + 2) 4 = some (w + 7) ∧ am_A (gE p) (w + 7) 5 8 := by
  have h9 : ∀ w ∈ [200, 300, 400], w + 2 ≠ 3 ∧ g_ref (fun _ => 0) (w + 2) 4 = some (w + 7) ∧ g_is (w + 7) 5 8 = true := by decide +kernel
  have h1 := h9 w (isWd_mem h)
  exact ⟨by rw [g_refp h1.1]; exact h1.2.1, g_A h1.2.2 (by decide)⟩

theorem ld_r4 {p : Nat → Nat} {w : Nat} (h : isWd w) : ∀ k, k < 8 → g_ref p (w + 7) k = some (w + 42 + k) ∧ am_A (gE p) (w + 42 + k) 1 3 := by
  have h9 : ∀ w ∈ [200, 300, 400], w + 7 ≠ 3 ∧ ∀ k, k < 8 → g_ref (fun _ => 0) (w + 7) k = some (w + 42 + k) ∧ g_is (w + 42 + k) 1 3 = true := by decide +kernel
  intro k hk
  have h1 := h9 w (isWd_mem h)
  exact ⟨by rw [g_refp h1.1]; exact (h1.2 k hk).1, g_A (h1.2 k hk).2 (by decide)⟩

/-- Land.copyFrom -/
theorem s_35 {X : Nat × (Nat → Int32)} {d : Nat} {p : Nat → Nat} {sg : Mg} {w q : Nat} (hw : isWd w) (hq : isWd q) (hne : w ≠ q) : gF X (d + 4) 35 [vR (w + 2), vR (q + 2)] p sg (fun r => ∃ s, ((∀ c, c ≤ w + 1 ∨ (w + 4 ≤ c ∧ c < w + 14) ∨ w + 50 ≤ c → s c = sg c) ∧ ∀ S, cwD q sg S → cwD w s S) ∧ r = gR0 p s) := by
  refine g_in (cd := k_35) (nL := 2) (rc := 4) rfl (ld_obj hw) (g_c1 rfl) ?_
  show gW X (d + 3) k_35 0 [some (vR (w + 2)), some (vR (q + 2))] [] p sg _
  refine g_pure 1 (i' := 1) (lv' := [some (vR (w + 2)), some (vR (q + 2))]) (st' := [vR (q + 2)]) rfl ?_
  refine g_getR rfl (ld_obj hq) (ld_f0 hq).1 ?_
  refine g_pure 1 (i' := 3) (lv' := [some (vR (w + 2)), some (vR (q + 2))]) (st' := [vR (w + 2), vR (q + 3)]) rfl ?_
  refine g_getR rfl (ld_obj hw) (ld_f0 hw).1 ?_
  refine g_cS0 rfl (args := [vR (q + 3), vR (w + 3)]) (rest := []) rfl rfl rfl (s_132 (d := d + 1) (ld_f0 hq).2 (ld_f0 hw).2 (by decide)) ?_
  refine g_setv' (fun s0 e0 => ?_)
  refine g_pure 1 (i' := 6) (lv' := [some (vR (w + 2)), some (vR (q + 2))]) (st' := [vR (q + 2)]) rfl ?_
  refine g_getR rfl (ld_obj hq) (ld_f1 hq).1 ?_
  refine g_pure 1 (i' := 8) (lv' := [some (vR (w + 2)), some (vR (q + 2))]) (st' := [vR (w + 2), vR (q + 4)]) rfl ?_
  refine g_getR rfl (ld_obj hw) (ld_f1 hw).1 ?_
  refine g_cS0 rfl (args := [vR (q + 4), vR (w + 4)]) (rest := []) rfl rfl rfl (s_131 (d := d) (a0 := q + 14) (b0 := w + 14) (n := 8) (m := 2) (ld_f1 hq).2 (ld_f1 hw).2 (by decide) (by decide) (ld_r1 hq) (ld_r1 hw)) ?_
  refine g_setv' (fun s1 e1 => ?_)
  refine g_pure 1 (i' := 11) (lv' := [some (vR (w + 2)), some (vR (q + 2))]) (st' := [vR (q + 2)]) rfl ?_
  refine g_getR rfl (ld_obj hq) (ld_f2 hq).1 ?_
  refine g_pure 1 (i' := 13) (lv' := [some (vR (w + 2)), some (vR (q + 2))]) (st' := [vR (w + 2), vR (q + 5)]) rfl ?_
  refine g_getR rfl (ld_obj hw) (ld_f2 hw).1 ?_
  refine g_cS0 rfl (args := [vR (q + 5), vR (w + 5)]) (rest := []) rfl rfl rfl (s_131 (d := d) (a0 := q + 22) (b0 := w + 22) (n := 12) (m := 3) (ld_f2 hq).2 (ld_f2 hw).2 (by decide) (by decide) (ld_r2 hq) (ld_r2 hw)) ?_
  refine g_setv' (fun s2 e2 => ?_)
  refine g_pure 1 (i' := 16) (lv' := [some (vR (w + 2)), some (vR (q + 2))]) (st' := [vR (q + 2)]) rfl ?_
  refine g_getR rfl (ld_obj hq) (ld_f3 hq).1 ?_
  refine g_pure 1 (i' := 18) (lv' := [some (vR (w + 2)), some (vR (q + 2))]) (st' := [vR (w + 2), vR (q + 6)]) rfl ?_
  refine g_getR rfl (ld_obj hw) (ld_f3 hw).1 ?_
  refine g_cS0 rfl (args := [vR (q + 6), vR (w + 6)]) (rest := []) rfl rfl rfl (s_131 (d := d) (a0 := q + 34) (b0 := w + 34) (n := 8) (m := 6) (ld_f3 hq).2 (ld_f3 hw).2 (by decide) (by decide) (ld_r3 hq) (ld_r3 hw)) ?_
  refine g_setv' (fun s3 e3 => ?_)
  refine g_pure 1 (i' := 21) (lv' := [some (vR (w + 2)), some (vR (q + 2))]) (st' := [vR (q + 2)]) rfl ?_
  refine g_getR rfl (ld_obj hq) (ld_f4 hq).1 ?_
  refine g_pure 1 (i' := 23) (lv' := [some (vR (w + 2)), some (vR (q + 2))]) (st' := [vR (w + 2), vR (q + 7)]) rfl ?_
  refine g_getR rfl (ld_obj hw) (ld_f4 hw).1 ?_
  refine g_cS0 rfl (args := [vR (q + 7), vR (w + 7)]) (rest := []) rfl rfl rfl (s_131 (d := d) (a0 := q + 42) (b0 := w + 42) (n := 8) (m := 3) (ld_f4 hq).2 (ld_f4 hw).2 (by decide) (by decide) (ld_r4 hq) (ld_r4 hw)) ?_
  refine g_setv' (fun s4 e4 => ?_)
  refine g_pure 2 (i' := 27) (lv' := [some (vR (w + 2)), some (vR (q + 2))]) (st' := [vR (q + 2), vR (w + 2)]) rfl ?_
  refine g_getI rfl (ld_obj hq) rfl ?_
  refine g_putI rfl (ld_obj hw) ?_
  refine g_setv' (fun t0 f0 => ?_)
  refine g_pure 2 (i' := 31) (lv' := [some (vR (w + 2)), some (vR (q + 2))]) (st' := [vR (q + 2), vR (w + 2)]) rfl ?_
  refine g_getI rfl (ld_obj hq) rfl ?_
  refine g_putI rfl (ld_obj hw) ?_
  refine g_setv' (fun t1 f1 => ?_)
  refine g_pure 2 (i' := 35) (lv' := [some (vR (w + 2)), some (vR (q + 2))]) (st' := [vR (q + 2), vR (w + 2)]) rfl ?_
  refine g_getI rfl (ld_obj hq) rfl ?_
  refine g_putI rfl (ld_obj hw) ?_
  refine g_setv' (fun t2 f2 => ?_)
  refine g_pure 2 (i' := 39) (lv' := [some (vR (w + 2)), some (vR (q + 2))]) (st' := [vR (q + 2), vR (w + 2)]) rfl ?_
  refine g_getI rfl (ld_obj hq) rfl ?_
  refine g_putI rfl (ld_obj hw) ?_
  refine g_setv' (fun t3 f3 => ?_)
  refine g_pure 2 (i' := 43) (lv' := [some (vR (w + 2)), some (vR (q + 2))]) (st' := [vR (q + 2), vR (w + 2)]) rfl ?_
  refine g_getI rfl (ld_obj hq) rfl ?_
  refine g_putI rfl (ld_obj hw) ?_
  refine g_setv' (fun t4 f4 => ?_)
  refine g_vret rfl ?_
  have hd : w + 100 ≤ q ∨ q + 100 ≤ w := by rcases hw with rfl | rfl | rfl <;> rcases hq with rfl | rfl | rfl <;> omega
  have hA : ∀ c, c ≠ w + 2 → t4 c = s4 c := fun c hc => by rw [f4, mu_ne hc, f3, mu_ne hc, f2, mu_ne hc, f1, mu_ne hc, f0, mu_ne hc]
  have hq4 : ∀ k, k < 50 → s4 (q + k) = sg (q + k) := fun k hk => by rw [e4, cprs_ne (by omega), e3, cprs_ne (by omega), e2, cprs_ne (by omega), e1, cprs_ne (by omega), e0, cpr_ne (by omega)]
  refine ⟨t4, ⟨fun c hc => ?_, fun S h => ?_⟩, rfl⟩
  · rw [hA c (by omega), e4, cprs_ne (by omega), e3, cprs_ne (by omega), e2, cprs_ne (by omega), e1, cprs_ne (by omega), e0, cpr_ne (by omega)]
  · skip
    refine ⟨fun k hk => ?_, fun k j hk hj => ?_, fun k j hk hj => ?_, fun k j hk hj => ?_, fun k j hk hj => ?_, ?_, ?_, ?_, ?_, ?_⟩
    · rw [hA _ (by omega), e4, cprs_ne (by omega), e3, cprs_ne (by omega), e2, cprs_ne (by omega), e1, cprs_ne (by omega), e0, cpr_at hk]; exact h.cnt hk
    · rw [hA _ (by omega), e4, cprs_ne (by omega), e3, cprs_ne (by omega), e2, cprs_ne (by omega), e1, cprs_at (fun z => by omega) hj (by omega) hk, e0, cpr_ne (by omega)]; exact h.fac j hk hj
    · rw [hA _ (by omega), e4, cprs_ne (by omega), e3, cprs_ne (by omega), e2, cprs_at (fun z => by omega) hj (by omega) hk, e1, cprs_ne (by omega), e0, cpr_ne (by omega)]; exact h.roa j hk hj
    · rw [hA _ (by omega), e4, cprs_ne (by omega), e3, cprs_at (fun z => by omega) hj (by omega) hk, e2, cprs_ne (by omega), e1, cprs_ne (by omega), e0, cpr_ne (by omega)]; exact h.deb j hk hj
    · rw [hA _ (by omega), e4, cprs_at (fun z => by omega) hj (by omega) hk, e3, cprs_ne (by omega), e2, cprs_ne (by omega), e1, cprs_ne (by omega), e0, cpr_ne (by omega)]; exact h.tas j hk hj
    · rw [f4, mu_idx (by decide), f3, mu_idx (by decide), f2, mu_idx (by decide), f1, mu_idx (by decide), f0, mu_self, hq4 2 (by omega)]; exact h.f5
    · rw [f4, mu_idx (by decide), f3, mu_idx (by decide), f2, mu_idx (by decide), f1, mu_self, f0, mu_ne (by omega), hq4 2 (by omega)]; exact h.f6
    · rw [f4, mu_idx (by decide), f3, mu_idx (by decide), f2, mu_self, f1, mu_ne (by omega), f0, mu_ne (by omega), hq4 2 (by omega)]; exact h.f7
    · rw [f4, mu_idx (by decide), f3, mu_self, f2, mu_ne (by omega), f1, mu_ne (by omega), f0, mu_ne (by omega), hq4 2 (by omega)]; exact h.f8
    · rw [f4, mu_self, f3, mu_ne (by omega), f2, mu_ne (by omega), f1, mu_ne (by omega), f0, mu_ne (by omega), hq4 2 (by omega)]; exact h.f9

theorem lw_obj {p : Nat → Nat} {w : Nat} (h : isWd w) : am_A (gE p) (w + 8) 0 4 := by
  have h9 : ∀ w ∈ [200, 300, 400], g_is (w + 8) 0 4 = true := by decide +kernel
  exact g_A (h9 w (isWd_mem h)) (by decide)

theorem lw_f0 {p : Nat → Nat} {w : Nat} (h : isWd w) : g_ref p (w + 8) 0 = some (w + 9) ∧ am_A (gE p) (w + 9) 1 12 := by
  have h9 : ∀ w ∈ [200, 300, 400], w + 8 ≠ 3 ∧ g_ref (fun _ => 0) (w + 8) 0 = some (w + 9) ∧ g_is (w + 9) 1 12 = true := by decide +kernel
  have h1 := h9 w (isWd_mem h)
  exact ⟨by rw [g_refp h1.1]; exact h1.2.1, g_A h1.2.2 (by decide)⟩

theorem lw_f1 {p : Nat → Nat} {w : Nat} (h : isWd w) : g_ref p (w + 8) 1 = some (w + 10) ∧ am_A (gE p) (w + 10) 1 12 := by
  have h9 : ∀ w ∈ [200, 300, 400], w + 8 ≠ 3 ∧ g_ref (fun _ => 0) (w + 8) 1 = some (w + 10) ∧ g_is (w + 10) 1 12 = true := by decide +kernel
  have h1 := h9 w (isWd_mem h)
  exact ⟨by rw [g_refp h1.1]; exact h1.2.1, g_A h1.2.2 (by decide)⟩

theorem lw_f2 {p : Nat → Nat} {w : Nat} (h : isWd w) : g_ref p (w + 8) 2 = some (w + 11) ∧ am_A (gE p) (w + 11) 1 12 := by
  have h9 : ∀ w ∈ [200, 300, 400], w + 8 ≠ 3 ∧ g_ref (fun _ => 0) (w + 8) 2 = some (w + 11) ∧ g_is (w + 11) 1 12 = true := by decide +kernel
  have h1 := h9 w (isWd_mem h)
  exact ⟨by rw [g_refp h1.1]; exact h1.2.1, g_A h1.2.2 (by decide)⟩

theorem lw_f3 {p : Nat → Nat} {w : Nat} (h : isWd w) : g_ref p (w + 8) 3 = some (w + 12) ∧ am_A (gE p) (w + 12) 1 400 := by
  have h9 : ∀ w ∈ [200, 300, 400], w + 8 ≠ 3 ∧ g_ref (fun _ => 0) (w + 8) 3 = some (w + 12) ∧ g_is (w + 12) 1 400 = true := by decide +kernel
  have h1 := h9 w (isWd_mem h)
  exact ⟨by rw [g_refp h1.1]; exact h1.2.1, g_A h1.2.2 (by decide)⟩

/-- how the class holds a step of a condition -/
def cdOf (st n : Int32) : Int32 := if st = 10 then n else if st < 10 then 1000 + st else if st = 14 then 1010 else if st = 15 then 1014 else if st = 16 then 1015 else 1000 + st
/-- how many steps all lines have -/
def stS (S : Nat → Int32) : Nat := if sn S 709 = 0 then 0 else sn S (710 + 4 * (sn S 709 - 1) + 3)
/-- a law in the class's cells -/
def cwA (w : Nat) (sg : Mg) (S : Nat → Int32) : Prop := sg (w + 8) 6 = (if S 7 = 1 then S 709 else -1) ∧ (S 7 = 1 → (∀ n, n < 12 → n < sn S 709 → sg (w + 9) n = S (710 + 4 * n) ∧ sg (w + 10) n = (if S (710 + 4 * n) = 2 then S (710 + 4 * n + 1) else 0) ∧ sg (w + 11) n = S (710 + 4 * n + 3)) ∧ ∀ i, i < 400 → i < stS S → sg (w + 12) i = cdOf (S (758 + 2 * i)) (S (758 + 2 * i + 1)))
/-- Law.copyFrom -/
theorem s_40 {X : Nat × (Nat → Int32)} {d : Nat} {p : Nat → Nat} {sg : Mg} {w q : Nat} (hw : isWd w) (hq : isWd q) (hne : w ≠ q) : gF X (d + 4) 40 [vR (w + 8), vR (q + 8)] p sg (fun r => ∃ s, ((∀ c, c < w + 8 ∨ w + 13 ≤ c → s c = sg c) ∧ ∀ S, cwA q sg S → cwA w s S) ∧ r = gR0 p s) := by
  refine g_in (cd := k_40) (nL := 2) (rc := 5) rfl (lw_obj hw) (g_c1 rfl) ?_
  show gW X (d + 3) k_40 0 [some (vR (w + 8)), some (vR (q + 8))] [] p sg _
  refine g_pure 1 (i' := 1) (lv' := [some (vR (w + 8)), some (vR (q + 8))]) (st' := [vR (q + 8)]) rfl ?_
  refine g_getR rfl (lw_obj hq) (lw_f0 hq).1 ?_
  refine g_pure 1 (i' := 3) (lv' := [some (vR (w + 8)), some (vR (q + 8))]) (st' := [vR (w + 8), vR (q + 9)]) rfl ?_
  refine g_getR rfl (lw_obj hw) (lw_f0 hw).1 ?_
  refine g_cS0 rfl (args := [vR (q + 9), vR (w + 9)]) (rest := []) rfl rfl rfl (s_132 (d := d + 1) (lw_f0 hq).2 (lw_f0 hw).2 (by decide)) ?_
  refine g_setv' (fun s0 e0 => ?_)
  refine g_pure 1 (i' := 6) (lv' := [some (vR (w + 8)), some (vR (q + 8))]) (st' := [vR (q + 8)]) rfl ?_
  refine g_getR rfl (lw_obj hq) (lw_f1 hq).1 ?_
  refine g_pure 1 (i' := 8) (lv' := [some (vR (w + 8)), some (vR (q + 8))]) (st' := [vR (w + 8), vR (q + 10)]) rfl ?_
  refine g_getR rfl (lw_obj hw) (lw_f1 hw).1 ?_
  refine g_cS0 rfl (args := [vR (q + 10), vR (w + 10)]) (rest := []) rfl rfl rfl (s_132 (d := d + 1) (lw_f1 hq).2 (lw_f1 hw).2 (by decide)) ?_
  refine g_setv' (fun s1 e1 => ?_)
  refine g_pure 1 (i' := 11) (lv' := [some (vR (w + 8)), some (vR (q + 8))]) (st' := [vR (q + 8)]) rfl ?_
  refine g_getR rfl (lw_obj hq) (lw_f2 hq).1 ?_
  refine g_pure 1 (i' := 13) (lv' := [some (vR (w + 8)), some (vR (q + 8))]) (st' := [vR (w + 8), vR (q + 11)]) rfl ?_
  refine g_getR rfl (lw_obj hw) (lw_f2 hw).1 ?_
  refine g_cS0 rfl (args := [vR (q + 11), vR (w + 11)]) (rest := []) rfl rfl rfl (s_132 (d := d + 1) (lw_f2 hq).2 (lw_f2 hw).2 (by decide)) ?_
  refine g_setv' (fun s2 e2 => ?_)
  refine g_pure 1 (i' := 16) (lv' := [some (vR (w + 8)), some (vR (q + 8))]) (st' := [vR (q + 8)]) rfl ?_
  refine g_getR rfl (lw_obj hq) (lw_f3 hq).1 ?_
  refine g_pure 1 (i' := 18) (lv' := [some (vR (w + 8)), some (vR (q + 8))]) (st' := [vR (w + 8), vR (q + 12)]) rfl ?_
  refine g_getR rfl (lw_obj hw) (lw_f3 hw).1 ?_
  refine g_cS0 rfl (args := [vR (q + 12), vR (w + 12)]) (rest := []) rfl rfl rfl (s_132 (d := d + 1) (lw_f3 hq).2 (lw_f3 hw).2 (by decide)) ?_
  refine g_setv' (fun s3 e3 => ?_)
  refine g_pure 2 (i' := 22) (lv' := [some (vR (w + 8)), some (vR (q + 8))]) (st' := [vR (q + 8), vR (w + 8)]) rfl ?_
  refine g_getI rfl (lw_obj hq) rfl ?_
  refine g_putI rfl (lw_obj hw) ?_
  refine g_setv' (fun t0 f0 => ?_)
  refine g_pure 2 (i' := 26) (lv' := [some (vR (w + 8)), some (vR (q + 8))]) (st' := [vR (q + 8), vR (w + 8)]) rfl ?_
  refine g_getI rfl (lw_obj hq) rfl ?_
  refine g_putI rfl (lw_obj hw) ?_
  refine g_setv' (fun t1 f1 => ?_)
  refine g_vret rfl ?_
  have hd : w + 100 ≤ q ∨ q + 100 ≤ w := by rcases hw with rfl | rfl | rfl <;> rcases hq with rfl | rfl | rfl <;> omega
  have hA : ∀ c, c ≠ w + 8 → t1 c = s3 c := fun c hc => by rw [f1, mu_ne hc, f0, mu_ne hc]
  have hq3 : s3 (q + 8) = sg (q + 8) := by rw [e3, cpr_ne (by omega), e2, cpr_ne (by omega), e1, cpr_ne (by omega), e0, cpr_ne (by omega)]
  refine ⟨t1, ⟨fun c hc => ?_, fun S h => ⟨?_, fun h7 => ⟨fun n h12 hn => ⟨?_, ?_, ?_⟩, fun i hi hs => ?_⟩⟩⟩, rfl⟩
  · rw [hA c (by omega), e3, cpr_ne (by omega), e2, cpr_ne (by omega), e1, cpr_ne (by omega), e0, cpr_ne (by omega)]
  · rw [f1, mu_self, f0, mu_ne (by omega), hq3]; exact h.1
  · rw [hA _ (by omega), e3, cpr_ne (by omega), e2, cpr_ne (by omega), e1, cpr_ne (by omega), e0, cpr_at h12]; exact ((h.2 h7).1 n h12 hn).1
  · rw [hA _ (by omega), e3, cpr_ne (by omega), e2, cpr_ne (by omega), e1, cpr_at h12, e0, cpr_ne (by omega)]; exact ((h.2 h7).1 n h12 hn).2.1
  · rw [hA _ (by omega), e3, cpr_ne (by omega), e2, cpr_at h12, e1, cpr_ne (by omega), e0, cpr_ne (by omega)]; exact ((h.2 h7).1 n h12 hn).2.2
  · rw [hA _ (by omega), e3, cpr_at hi, e2, cpr_ne (by omega), e1, cpr_ne (by omega), e0, cpr_ne (by omega)]; exact (h.2 h7).2 i hi hs

theorem wd_obj {p : Nat → Nat} {w : Nat} (h : isWd w) : am_A (gE p) w 0 10 ∧ g_ref p w 0 = some (w + 2) ∧ g_ref p w 1 = some (w + 50) ∧ g_ref p w 2 = some (w + 8) := by
  have h9 : ∀ w ∈ [200, 300, 400], w ≠ 3 ∧ g_is w 0 10 = true ∧ g_ref (fun _ => 0) w 0 = some (w + 2) ∧ g_ref (fun _ => 0) w 1 = some (w + 50) ∧ g_ref (fun _ => 0) w 2 = some (w + 8) := by decide +kernel
  have h1 := h9 w (isWd_mem h)
  exact ⟨g_A h1.2.1 (by decide), by rw [g_refp h1.1]; exact h1.2.2.1, by rw [g_refp h1.1]; exact h1.2.2.2.1, by rw [g_refp h1.1]; exact h1.2.2.2.2⟩
theorem wd_life {w : Nat} (h : isWd w) : isLife (w + 50) := by
  rcases h with rfl | rfl | rfl
  · exact Or.inl rfl
  · exact Or.inr (Or.inl rfl)
  · exact Or.inr (Or.inr (Or.inl rfl))
/-- all of a world -/
def cwW (w : Nat) (sg : Mg) (S : Nat → Int32) : Prop := cwL (w + 50) sg S ∧ cwD w sg S ∧ cwA w sg S
theorem cwA.eqx {m : List Nat} {w : Nat} {sg sg' : Mg} {S : Nat → Int32} (h : cwA w sg S) (e : ∀ c, w + 8 ≤ c → c < w + 13 → sg' c = sg c) : cwA w sg' S := by
  unfold cwA at h ⊢
  rw [e (w + 8) (by omega) (by omega), e (w + 9) (by omega) (by omega), e (w + 10) (by omega) (by omega), e (w + 11) (by omega) (by omega), e (w + 12) (by omega) (by omega)]
  exact h
theorem cwL.eqc {l : Nat} {sg sg' : Mg} {S : Nat → Int32} (h : cwL l sg S) (e : ∀ c, l ≤ c → c < l + 18 → sg' c = sg c) : cwL l sg' S := by
  unfold cwL at h ⊢
  refine ⟨fun v q hv hq => ?_, fun j k hj hk => ?_, fun k hk => ?_, fun j k hj hk => ?_, ?_, fun k j hk hj => ?_⟩
  · rw [e _ (by omega) (by omega)]; exact h.1 v q hv hq
  · rw [e _ (by omega) (by omega)]; exact h.2.1 j k hj hk
  · rw [e _ (by omega) (by omega)]; exact h.2.2.1 k hk
  · rw [e _ (by omega) (by omega)]; exact h.2.2.2.1 j k hj hk
  · rw [e _ (by omega) (by omega)]; exact h.2.2.2.2.1
  · rw [e _ (by omega) (by omega)]; exact h.2.2.2.2.2 k j hk hj
theorem cwD.eqc {w : Nat} {sg sg' : Mg} {S : Nat → Int32} (h : cwD w sg S) (e : ∀ c, (c = w + 2 ∨ c = w + 3 ∨ (w + 14 ≤ c ∧ c < w + 50)) → sg' c = sg c) : cwD w sg' S := by
  unfold cwD at h ⊢
  refine ⟨fun k hk => ?_, fun k j hk hj => ?_, fun k j hk hj => ?_, fun k j hk hj => ?_, fun k j hk hj => ?_, ?_⟩
  · rw [e _ (by omega)]; exact h.1 k hk
  · rw [e _ (by omega)]; exact h.2.1 k j hk hj
  · rw [e _ (by omega)]; exact h.2.2.1 k j hk hj
  · rw [e _ (by omega)]; exact h.2.2.2.1 k j hk hj
  · rw [e _ (by omega)]; exact h.2.2.2.2.1 k j hk hj
  · rw [e _ (by omega)]; exact h.2.2.2.2.2
/-- World.copyFrom -/
theorem s_106 {X : Nat × (Nat → Int32)} {d : Nat} {p : Nat → Nat} {sg : Mg} {w q : Nat} (hw : isWd w) (hq : isWd q) (hne : w ≠ q) : gF X (d + 5) 106 [vR w, vR q] p sg (fun r => ∃ s, ((∀ c, c ≤ w + 1 ∨ w + 70 ≤ c → s c = sg c) ∧ ∀ S, sn S 14 ≤ 100 → cwW q sg S → cwW w s S) ∧ r = gR0 p s) := by
  have hd : w + 100 ≤ q ∨ q + 100 ≤ w := by rcases hw with rfl | rfl | rfl <;> rcases hq with rfl | rfl | rfl <;> omega
  refine g_in (cd := k_106) (nL := 2) (rc := 11) rfl (wd_obj hw).1 (g_c1 rfl) ?_
  show gW X (d + 4) k_106 0 [some (vR w), some (vR q)] [] p sg _
  refine g_pure 1 (i' := 1) (lv' := [some (vR w), some (vR q)]) (st' := [vR w]) rfl ?_
  refine g_getR rfl (wd_obj hw).1 (wd_obj hw).2.1 ?_
  refine g_pure 1 (i' := 3) (lv' := [some (vR w), some (vR q)]) (st' := [vR q, vR (w + 2)]) rfl ?_
  refine g_getR rfl (wd_obj hq).1 (wd_obj hq).2.1 ?_
  refine g_cV0E rfl (args := [vR (w + 2), vR (q + 2)]) (rest := []) rfl rfl rfl (s_35 (d := d) hw hq hne) (fun s1 h1 => ?_)
  refine g_pure 1 (i' := 6) (lv' := [some (vR w), some (vR q)]) (st' := [vR w]) rfl ?_
  refine g_getR rfl (wd_obj hw).1 (wd_obj hw).2.2.1 ?_
  refine g_pure 1 (i' := 8) (lv' := [some (vR w), some (vR q)]) (st' := [vR q, vR (w + 50)]) rfl ?_
  refine g_getR rfl (wd_obj hq).1 (wd_obj hq).2.2.1 ?_
  refine g_cV0E rfl (args := [vR (w + 50), vR (q + 50)]) (rest := []) rfl rfl rfl (s_55 (d := d) (wd_life hw) (wd_life hq) (by omega)) (fun s2 h2 => ?_)
  refine g_pure 1 (i' := 11) (lv' := [some (vR w), some (vR q)]) (st' := [vR w]) rfl ?_
  refine g_getR rfl (wd_obj hw).1 (wd_obj hw).2.2.2 ?_
  refine g_pure 1 (i' := 13) (lv' := [some (vR w), some (vR q)]) (st' := [vR q, vR (w + 8)]) rfl ?_
  refine g_getR rfl (wd_obj hq).1 (wd_obj hq).2.2.2 ?_
  refine g_cV0E rfl (args := [vR (w + 8), vR (q + 8)]) (rest := []) rfl rfl rfl (s_40 (d := d) hw hq hne) (fun s3 h3 => ?_)
  refine g_vret rfl ?_
  refine ⟨s3, ⟨fun c hc => ?_, fun S h14 hS => ⟨?_, ?_, ?_⟩⟩, rfl⟩
  · rw [h3.1 c (by omega), h2.1 c (by omega), h1.1 c (by omega)]
  · refine (h2.2 S h14 ?_).eqc (fun c c1 c2 => h3.1 c (by omega))
    exact hS.1.eqc (fun c c1 c2 => h1.1 c (by omega))
  · refine (h1.2 S hS.2.1).eqc (fun c hc => ?_)
    rw [h3.1 c (by omega), h2.1 c (by omega)]
  · refine h3.2 S (hS.2.2.eqx (m := []) (fun c c1 c2 => ?_))
    rw [h2.1 c (by omega), h1.1 c (by omega)]
