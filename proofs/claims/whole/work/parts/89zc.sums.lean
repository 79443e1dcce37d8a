/-! TABLES: sums over orders (made by wip/whole/gen89zc.py) -/
noncomputable def ifN (P : Prop) (a b : Nat) : Nat := @ite Nat P (Classical.propDecidable P) a b
theorem ifN_t {P : Prop} {a b : Nat} (h : P) : ifN P a b = a := @if_pos P (Classical.propDecidable P) h Nat a b
theorem ifN_f {P : Prop} {a b : Nat} (h : ¬ P) : ifN P a b = b := @if_neg P (Classical.propDecidable P) h Nat a b
theorem ifN_c {P Q : Prop} {a b : Nat} (h : P ↔ Q) : ifN P a b = ifN Q a b := by
  by_cases c : P
  · rw [ifN_t c, ifN_t (h.mp c)]
  · rw [ifN_f c, ifN_f (fun q => c (h.mpr q))]
/-- the sum of F below n -/
def sm1 (F : Nat → Nat) : Nat → Nat
  | 0 => 0
  | n + 1 => sm1 F n + F n
theorem sm1_ext {F G : Nat → Nat} : ∀ {n : Nat}, (∀ v, v < n → F v = G v) → sm1 F n = sm1 G n
  | 0, _ => rfl
  | n + 1, h => by
    show sm1 F n + F n = sm1 G n + G n
    rw [sm1_ext (n := n) (fun v hv => h v (by omega)), h n (by omega)]
theorem sm1_zero {F : Nat → Nat} : ∀ {n : Nat}, (∀ v, v < n → F v = 0) → sm1 F n = 0
  | 0, _ => rfl
  | n + 1, h => by
    show sm1 F n + F n = 0
    rw [sm1_zero (n := n) (fun v hv => h v (by omega)), h n (by omega)]
theorem sm1_one {F : Nat → Nat} {a : Nat} : ∀ {n : Nat}, a < n → (∀ v, v < n → v ≠ a → F v = 0) → sm1 F n = F a
  | 0, h, _ => absurd h (Nat.not_lt_zero _)
  | n + 1, h, g => by
    show sm1 F n + F n = F a
    by_cases e : a = n
    · subst e
      rw [sm1_zero (fun v hv => g v (by omega) (by omega)), Nat.zero_add]
    · rw [sm1_one (n := n) (by omega) (fun v hv => g v (by omega)), g n (by omega) (fun h9 => e h9.symm), Nat.add_zero]
theorem sm1_add {F G : Nat → Nat} : ∀ n, sm1 (fun v => F v + G v) n = sm1 F n + sm1 G n
  | 0 => rfl
  | n + 1 => by
    show sm1 (fun v => F v + G v) n + (F n + G n) = sm1 F n + F n + (sm1 G n + G n)
    rw [sm1_add n]; omega
theorem sm1_mul {F : Nat → Nat} {c : Nat} : ∀ n, sm1 (fun v => F v * c) n = sm1 F n * c
  | 0 => (Nat.zero_mul c).symm
  | n + 1 => by
    show sm1 (fun v => F v * c) n + F n * c = (sm1 F n + F n) * c
    rw [sm1_mul n, Nat.add_mul]
theorem sm1_swap {F : Nat → Nat → Nat} {m : Nat} : ∀ n, sm1 (fun u => sm1 (fun v => F u v) m) n = sm1 (fun v => sm1 (fun u => F u v) n) m
  | 0 => (sm1_zero (fun _ _ => rfl)).symm
  | n + 1 => by
    show sm1 (fun u => sm1 (fun v => F u v) m) n + sm1 (fun v => F n v) m = sm1 (fun v => sm1 (fun u => F u v) n + F n v) m
    rw [sm1_swap n, sm1_add (F := fun v => sm1 (fun u => F u v) n) (G := fun v => F n v) m]
/-- an order where a day gets a page -/
def uN (w : Nat → Nat) (x v : Nat) : Nat → Nat := fun y => if y = x then v else w y
theorem uN_self {w : Nat → Nat} {x v : Nat} : uN w x v x = v := if_pos rfl
theorem uN_ne {w : Nat → Nat} {x v y : Nat} (h : y ≠ x) : uN w x v y = w y := if_neg h
theorem uN_comm {w : Nat → Nat} {x y u v : Nat} (h : x ≠ y) : uN (uN w x u) y v = uN (uN w y v) x u := by
  funext z
  unfold uN
  by_cases e : z = y
  · subst e
    rw [if_pos rfl, if_neg (fun h9 => h h9.symm), if_pos rfl]
  · rw [if_neg e, if_neg e]
/-- .. over all pages of the days of a list -/
def smL (D : Nat) (φ : (Nat → Nat) → Nat) : List Nat → (Nat → Nat) → Nat
  | [], w => φ w
  | x :: L, w => sm1 (fun v => smL D φ L (uN w x v)) D
theorem smL_append {D : Nat} {φ : (Nat → Nat) → Nat} : ∀ (L M : List Nat) (w : Nat → Nat), smL D φ (L ++ M) w = smL D (fun w => smL D φ M w) L w
  | [], _, _ => rfl
  | x :: L, M, w => sm1_ext (fun v _ => smL_append L M (uN w x v))
theorem smL_perm {D : Nat} {φ : (Nat → Nat) → Nat} {L M : List Nat} (h : L.Perm M) : ∀ w, smL D φ L w = smL D φ M w := by
  induction h with
  | nil => exact fun _ => rfl
  | cons x _ ih => exact fun w => sm1_ext (fun v _ => ih (uN w x v))
  | swap x y l =>
    intro w
    show sm1 (fun u => sm1 (fun v => smL D φ l (uN (uN w y u) x v)) D) D = sm1 (fun v => sm1 (fun u => smL D φ l (uN (uN w x v) y u)) D) D
    by_cases e : x = y
    · subst e; rfl
    · rw [sm1_swap]
      exact sm1_ext (fun v _ => sm1_ext (fun u _ => by rw [uN_comm (fun h => e h.symm)]))
  | trans _ _ ih1 ih2 => exact fun w => (ih1 w).trans (ih2 w)
/-- orders reached from w over the days of L -/
def exL (D : Nat) (L : List Nat) (w w' : Nat → Nat) : Prop := (∀ x, x ∉ L → w' x = w x) ∧ ∀ x, x ∈ L → w' x < D
theorem exL.cons {D x v : Nat} {L : List Nat} {w w' : Nat → Nat} (hx : x ∉ L) (hv : v < D) (h : exL D L (uN w x v) w') : exL D (x :: L) w w' ∧ w' x = v := by
  have e := h.1 x hx
  rw [uN_self] at e
  refine ⟨⟨fun y hy => ?_, fun y hy => ?_⟩, e⟩
  · have hy2 : y ≠ x ∧ y ∉ L := ⟨fun h9 => hy (by rw [h9]; exact List.mem_cons_self), fun h9 => hy (List.mem_cons_of_mem _ h9)⟩
    rw [h.1 y hy2.2, uN_ne hy2.1]
  · by_cases c : y = x
    · subst c; rw [e]; exact hv
    · exact h.2 y ((List.mem_cons.mp hy).resolve_left c)
theorem smL_ext {D : Nat} {φ ψ : (Nat → Nat) → Nat} : ∀ {L : List Nat} {w : Nat → Nat}, L.Nodup → (∀ w', exL D L w w' → φ w' = ψ w') → smL D φ L w = smL D ψ L w
  | [], w, _, h => h w ⟨fun _ _ => rfl, fun _ h => nomatch h⟩
  | x :: L, w, hn, h => sm1_ext (fun v hv => smL_ext (L := L) (List.nodup_cons.mp hn).2 (fun w' hw' => h w' (exL.cons (List.nodup_cons.mp hn).1 hv hw').1))
theorem smL_zero {D : Nat} : ∀ {L : List Nat} {w : Nat → Nat}, smL D (fun _ => 0) L w = 0
  | [], _ => rfl
  | _ :: L, _ => sm1_zero (fun _ _ => smL_zero (L := L))
theorem smL_no {D : Nat} {P : (Nat → Nat) → Prop} {L : List Nat} {w : Nat → Nat} (hn : L.Nodup) (h : ∀ w', exL D L w w' → ¬ P w') : smL D (fun w => ifN (P w) 1 0) L w = 0 := (smL_ext (ψ := fun _ => 0) hn (fun w' hw' => ifN_f (h w' hw'))).trans smL_zero
/-! what the reference counts -/
/-- the pages of the days below d differ, and the clues of them hold -/
def preO (T : Nat → Int32) (D n d : Nat) (w : Nat → Nat) : Prop := (∀ a b, a < b → b < d → w a ≠ w b) ∧ ∀ k, k < n → (T (3 * k)).toNatClampNeg < d → (T (3 * k + 1)).toNatClampNeg < d → (w (T (3 * k)).toNatClampNeg + D - w (T (3 * k + 1)).toNatClampNeg) % D = (T (3 * k + 2)).toNatClampNeg
/-- day d fits -/
def fitO (T : Nat → Int32) (D n d : Nat) (w : Nat → Nat) : Prop := (∀ a, a < d → w a ≠ w d) ∧ ∀ k, k < n → (T (3 * k)).toNatClampNeg ≤ d → (T (3 * k + 1)).toNatClampNeg ≤ d → (w (T (3 * k)).toNatClampNeg + D - w (T (3 * k + 1)).toNatClampNeg) % D = (T (3 * k + 2)).toNatClampNeg
section
variable {T : Nat → Int32} {D n : Nat}
theorem preO.succ {d : Nat} {w : Nat → Nat} : preO T D n (d + 1) w ↔ preO T D n d w ∧ fitO T D n d w := by
  constructor
  · intro h
    exact ⟨⟨fun a b h1 h2 => h.1 a b h1 (by omega), fun k hk h1 h2 => h.2 k hk (by omega) (by omega)⟩, fun a ha => h.1 a d ha (by omega), fun k hk h1 h2 => h.2 k hk (by omega) (by omega)⟩
  · intro ⟨h, g⟩
    refine ⟨fun a b h1 h2 => ?_, fun k hk h1 h2 => g.2 k hk (by omega) (by omega)⟩
    by_cases e : b = d
    · subst e; exact g.1 a h1
    · exact h.1 a b h1 (by omega)
theorem preO.ag {d : Nat} {w w' : Nat → Nat} (h : preO T D n d w) (e : ∀ a, a < d → w' a = w a) : preO T D n d w' := by
  refine ⟨fun a b h1 h2 => ?_, fun k hk h1 h2 => ?_⟩
  · rw [e a (by omega), e b h2]; exact h.1 a b h1 h2
  · rw [e _ h1, e _ h2]; exact h.2 k hk h1 h2
theorem preO.le {d e : Nat} {w : Nat → Nat} (h : preO T D n d w) (he : e ≤ d) : preO T D n e w := ⟨fun a b h1 h2 => h.1 a b h1 (by omega), fun k hk h1 h2 => h.2 k hk (by omega) (by omega)⟩
noncomputable def cO (T : Nat → Int32) (D n : Nat) : Nat → Nat → (Nat → Nat) → Nat
  | 0, _, _ => 1
  | k + 1, d, w => sm1 (fun v => ifN (fitO T D n d (uN w d v)) (cO T D n k (d + 1) (uN w d v)) 0) D
theorem cO_ok : ∀ (k : Nat) {d : Nat} {w : Nat → Nat}, preO T D n d w → cO T D n k d w = smL D (fun w => ifN (preO T D n (d + k) w) 1 0) (List.range' d k) w
  | 0, d, w, h => (ifN_t h).symm
  | k + 1, d, w, h => by
    refine sm1_ext (fun v hv => ?_)
    have h2 : preO T D n d (uN w d v) := h.ag (fun a ha => uN_ne (by omega))
    by_cases c : fitO T D n d (uN w d v)
    · rw [ifN_t c, cO_ok k (preO.succ.mpr ⟨h2, c⟩), show d + 1 + k = d + (k + 1) by omega]
    · rw [ifN_f c]
      refine (smL_no (List.nodup_range' 1) (fun w' hw' g => c ?_)).symm
      have g2 : preO T D n (d + 1) (uN w d v) := (g.le (show d + 1 ≤ d + (k + 1) by omega)).ag (fun a ha => (hw'.1 a (fun h9 => by rw [List.mem_range'_1] at h9; omega)).symm)
      exact (preO.succ.mp g2).2
def w00 : Nat → Nat := fun _ => 0
/-- how many orders there are -/
noncomputable def ordN (T : Nat → Int32) (D n : Nat) : Nat := ifN (fitO T D n 0 w00) (cO T D n (D - 1) 1 w00) 0
theorem preO.zero {w : Nat → Nat} : preO T D n 0 w := ⟨fun a b h1 h2 => absurd h2 (Nat.not_lt_zero _), fun k hk h1 h2 => absurd h1 (Nat.not_lt_zero _)⟩
theorem ordN_all (h0 : 1 ≤ D) : ordN T D n = smL D (fun w => ifN (preO T D n D w ∧ w 0 = 0) 1 0) (List.range' 0 D) w00 := by
  have e0 : uN w00 0 0 = w00 := by funext y; unfold uN w00; split <;> rfl
  obtain ⟨m, rfl⟩ : ∃ m, D = m + 1 := ⟨D - 1, by omega⟩
  rw [List.range'_succ]
  show ordN T (m + 1) n = sm1 (fun v => smL (m + 1) _ (List.range' (0 + 1) m) (uN w00 0 v)) (m + 1)
  rw [sm1_one (a := 0) (by omega) (fun v hv hne => smL_no (List.nodup_range' 1) (fun w' hw' g => ?_)), e0]
  · unfold ordN
    by_cases c : fitO T (m + 1) n 0 w00
    · rw [ifN_t c, cO_ok _ (preO.succ.mpr ⟨preO.zero, c⟩)]
      refine smL_ext (List.nodup_range' 1) (fun w' hw' => ifN_c ⟨fun g => ⟨?_, ?_⟩, fun g => ?_⟩)
      · rw [show 1 + (m + 1 - 1) = m + 1 by omega] at g; exact g
      · exact hw'.1 0 (fun h9 => by rw [List.mem_range'_1] at h9; omega)
      · rw [show 1 + (m + 1 - 1) = m + 1 by omega]; exact g.1
    · rw [ifN_f c]
      refine (smL_no (List.nodup_range' 1) (fun w' hw' g => c ?_)).symm
      have g2 : preO T (m + 1) n (0 + 1) w00 := (g.1.le (show 0 + 1 ≤ m + 1 by omega)).ag (fun a ha => (hw'.1 a (fun h9 => by rw [List.mem_range'_1] at h9; omega)).symm)
      exact (preO.succ.mp g2).2
  · have := hw'.1 0 (fun h9 => by rw [List.mem_range'_1] at h9; omega)
    rw [uN_self] at this
    omega
end
