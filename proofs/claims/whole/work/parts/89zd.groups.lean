/-! TABLES: the sum over orders, group by group (made by wip/whole/gen89zd.py) -/
theorem popc_or : ∀ f a b, a &&& b = 0 → popc f (a ||| b) = popc f a + popc f b
  | 0, _, _, _ => rfl
  | f + 1, a, b, h => by
    have h1 : (a / 2) &&& (b / 2) = 0 := by rw [← Nat.and_div_two, h]
    have h2 : (a ||| b) % 2 = a % 2 + b % 2 := by
      have e1 : (a &&& b) % 2 = 0 := by rw [h]
      have e2 := @Nat.and_mod_two_eq_one a b
      have e3 := @Nat.or_mod_two_eq_one a b
      omega
    show (a ||| b) % 2 + popc f ((a ||| b) / 2) = a % 2 + popc f (a / 2) + (b % 2 + popc f (b / 2))
    rw [Nat.or_div_two, popc_or f _ _ h1, h2]
    omega
theorem popc_tr : ∀ e, e < 10 → ∀ s, s < 2 ^ e → ∀ b, b < e + 1 → popc 9 (trN s b e) = popc 9 s := by decide +kernel
theorem popc_free : ∀ e, e < 10 → ∀ t, t < 2 ^ e → sm1 (fun v => if trN 1 v e &&& t = 0 then 1 else 0) e + popc 9 t = e := by decide +kernel
theorem popc_pow : ∀ x, x < 9 → popc 9 (2 ^ x) = 1 := by decide +kernel
theorem popc_one : ∀ s, s < 512 → s.testBit 0 = true → popc 9 s = 1 → s = 1 := by decide +kernel
theorem popc_pos : ∀ s, s < 512 → popc 9 s = 0 → s = 0 := by decide +kernel
theorem tr_lt {s b e : Nat} : trN s b e < 2 ^ e := Nat.mod_lt _ (Nat.two_pow_pos e)
theorem tr_end : ∀ e, e < 10 → ∀ s, s < 2 ^ e → trN s e e = trN s 0 e := by decide +kernel
theorem pw_and : ∀ t, t < 512 → ∀ x, x < 9 → (t &&& 2 ^ x = 0 ↔ t.testBit x = false) := by decide +kernel
def facN : Nat → Nat
  | 0 => 1
  | k + 1 => facN k * (k + 1)
section
variable {g f : Nat → Nat} {D : Nat}
/-- the pages of all days, by the pages of the labels -/
def tilN (g f : Nat → Nat) (D : Nat) (w : Nat → Nat) : Nat → Nat := fun a => (w (g a) + f a) % D
def injN (D : Nat) (w : Nat → Nat) : Prop := ∀ a b, a < b → b < D → w a ≠ w b
theorem injN.ag {w w' : Nat → Nat} (h : injN D w) (e : ∀ a, a < D → w' a = w a) : injN D w' := fun a b h1 h2 => by
  rw [e a (by omega), e b h2]; exact h a b h1 h2
/-- days that are no labels have one page each -/
theorem smL_til (hg : gOK g f D) (h0 : 1 ≤ D) : ∀ {L : List Nat} {w : Nat → Nat}, L.Nodup → (∀ x, x ∈ L → x < D ∧ g x ≠ x) → (∀ a, a < D → a ∉ L → w a = tilN g f D w a) → smL D (fun w => ifN (injN D w ∧ gSol g f D w ∧ w 0 = 0) 1 0) L w = ifN (injN D (tilN g f D w) ∧ tilN g f D w 0 = 0) 1 0
  | [], w, _, _, hw => by
    have hw : ∀ a, a < D → w a = tilN g f D w a := fun a ha => hw a ha (fun h => nomatch h)
    exact ifN_c ⟨fun ⟨h1, h2, h3⟩ => ⟨h1.ag (fun a ha => (hw a ha).symm), by rw [← hw 0 h0]; exact h3⟩, fun ⟨h1, h2⟩ => ⟨h1.ag hw, hw, by rw [hw 0 h0]; exact h2⟩⟩
  | x :: L, w, hn, hl, hw => by
    obtain ⟨hx, hn2⟩ := List.nodup_cons.mp hn
    obtain ⟨xD, xg⟩ := hl x List.mem_cons_self
    have hm : tilN g f D w x < D := Nat.mod_lt _ (by omega)
    have hgx : ∀ a, a < D → g a ≠ x := fun a ha e => xg (by rw [← e]; exact (hg a ha).2.2.1)
    have ht : ∀ v a, a < D → tilN g f D (uN w x v) a = tilN g f D w a := fun v a ha => by unfold tilN; rw [uN_ne (hgx a ha)]
    show sm1 (fun v => smL D _ L (uN w x v)) D = _
    have hz : ∀ v, v < D → v ≠ tilN g f D w x → smL D (fun w => ifN (injN D w ∧ gSol g f D w ∧ w 0 = 0) 1 0) L (uN w x v) = 0 := fun v hv hne => smL_no hn2 (fun w' hw' h => by
      have h1 := h.2.1 x xD
      rw [hw'.1 x hx, uN_self, hw'.1 (g x) (fun h9 => (hl _ (List.mem_cons_of_mem _ h9)).2 (hg x xD).2.2.1), uN_ne (hgx x xD)] at h1
      exact hne h1)
    rw [sm1_one (a := tilN g f D w x) hm hz, smL_til hg h0 hn2 (fun y hy => hl y (List.mem_cons_of_mem _ hy)) (fun a ha haL => ?_)]
    · exact ifN_c ⟨fun ⟨h1, h2⟩ => ⟨h1.ag (fun a ha => (ht _ a ha).symm), by rw [← ht _ 0 h0]; exact h2⟩, fun ⟨h1, h2⟩ => ⟨h1.ag (fun a ha => ht _ a ha), by rw [ht _ 0 h0]; exact h2⟩⟩
    · rw [ht _ a ha]
      by_cases e : a = x
      · subst e; exact uN_self
      · rw [uN_ne e]
        exact hw a ha (fun h9 => (List.mem_cons.mp h9).elim e haL)
/-- the groups of a list, turned, keep apart -/
def djN (D : Nat) (P : Nat → Nat) : List Nat → Nat → (Nat → Nat) → Prop
  | [], _, _ => True
  | l :: L, t, w => trN (P l) (w l) D &&& t = 0 ∧ djN D P L (t ||| trN (P l) (w l) D) w
theorem djN.ag {P : Nat → Nat} {w w' : Nat → Nat} : ∀ {L : List Nat} {t : Nat}, (∀ x, x ∈ L → w' x = w x) → (djN D P L t w' ↔ djN D P L t w)
  | [], _, _ => Iff.rfl
  | l :: L, t, h => by
    show (trN (P l) (w' l) D &&& t = 0 ∧ djN D P L (t ||| trN (P l) (w' l) D) w') ↔ (trN (P l) (w l) D &&& t = 0 ∧ djN D P L (t ||| trN (P l) (w l) D) w)
    rw [h l List.mem_cons_self, djN.ag (fun x hx => h x (List.mem_cons_of_mem _ hx))]
/-- in how many ways the groups of a list can be turned -/
def cL (D : Nat) (P : Nat → Nat) : List Nat → Nat → Nat
  | [], _ => 1
  | l :: L, t => sm1 (fun v => if trN (P l) v D &&& t = 0 then cL D P L (t ||| trN (P l) v D) else 0) D
theorem cL_ok {P : Nat → Nat} : ∀ {L : List Nat} {t : Nat} {w : Nat → Nat}, L.Nodup → smL D (fun w => ifN (djN D P L t w) 1 0) L w = cL D P L t
  | [], _, _, _ => ifN_t trivial
  | l :: L, t, w, hn => by
    obtain ⟨hl, hn2⟩ := List.nodup_cons.mp hn
    refine sm1_ext (fun v hv => ?_)
    have hw : ∀ w', exL D L (uN w l v) w' → w' l = v := fun w' h => (h.1 l hl).trans uN_self
    by_cases c : trN (P l) v D &&& t = 0
    · rw [if_pos c, ← cL_ok (w := uN w l v) hn2]
      refine smL_ext hn2 (fun w' hw' => ifN_c ?_)
      show (trN (P l) (w' l) D &&& t = 0 ∧ djN D P L (t ||| trN (P l) (w' l) D) w') ↔ _
      rw [hw w' hw']
      exact ⟨fun h => h.2, fun h => ⟨c, h⟩⟩
    · rw [if_neg c]
      refine smL_no hn2 (fun w' hw' h => c ?_)
      have := h.1
      rw [hw w' hw'] at this
      exact this
/-- single days fill what is free -/
theorem cL_single {P : Nat → Nat} (h9 : D ≤ 9) : ∀ {L : List Nat} {t : Nat}, (∀ l, l ∈ L → P l = 1) → t < 2 ^ D → popc 9 t + L.length = D → cL D P L t = facN L.length
  | [], _, _, _, _ => rfl
  | l :: L, t, hP, ht, hc => by
    have hc : popc 9 t + (L.length + 1) = D := hc
    have e1 : ∀ v, v < D → (if trN (P l) v D &&& t = 0 then cL D P L (t ||| trN (P l) v D) else 0) = (if trN 1 v D &&& t = 0 then 1 else 0) * facN L.length := fun v hv => by
      rw [hP l List.mem_cons_self]
      by_cases c : trN 1 v D &&& t = 0
      · rw [if_pos c, if_pos c, Nat.one_mul, cL_single h9 (fun l hl => hP l (List.mem_cons_of_mem _ hl)) (Nat.or_lt_two_pow ht tr_lt)]
        rw [popc_or _ _ _ (by rw [Nat.and_comm]; exact c), popc_tr D (by omega) 1 (Nat.one_lt_two_pow (by omega)) v (by omega)]
        have : popc 9 1 = 1 := rfl
        omega
      · rw [if_neg c, if_neg c, Nat.zero_mul]
    show sm1 _ D = facN L.length * (L.length + 1)
    have := popc_free D (by omega) t ht
    rw [sm1_ext e1, sm1_mul, show sm1 (fun v => if trN 1 v D &&& t = 0 then 1 else 0) D = L.length + 1 by omega, Nat.mul_comm]
theorem cL_split {P : Nat → Nat} (h9 : D ≤ 9) (hP : ∀ l, P l < 2 ^ D) {M : List Nat} (hM : ∀ l, l ∈ M → P l = 1) : ∀ {L : List Nat} {t : Nat}, t < 2 ^ D → popc 9 t + (L.map (fun l => popc 9 (P l))).sum + M.length = D → cL D P (L ++ M) t = cL D P L t * facN M.length
  | [], t, ht, hc => by
    have hc : popc 9 t + 0 + M.length = D := hc
    show cL D P M t = 1 * facN M.length
    rw [Nat.one_mul]
    exact cL_single h9 hM ht (by omega)
  | l :: L, t, ht, hc => by
    rw [List.map_cons, List.sum_cons] at hc
    show sm1 (fun v => if trN (P l) v D &&& t = 0 then cL D P (L ++ M) (t ||| trN (P l) v D) else 0) D = sm1 (fun v => if trN (P l) v D &&& t = 0 then cL D P L (t ||| trN (P l) v D) else 0) D * facN M.length
    rw [← sm1_mul]
    refine sm1_ext (fun v hv => ?_)
    by_cases c : trN (P l) v D &&& t = 0
    · rw [if_pos c, if_pos c]
      refine cL_split h9 hP hM (Nat.or_lt_two_pow ht tr_lt) ?_
      rw [popc_or _ _ _ (by rw [Nat.and_comm]; exact c), popc_tr D (by omega) _ (hP l) v (by omega)]
      omega
    · rw [if_neg c, if_neg c, Nat.zero_mul]
end
