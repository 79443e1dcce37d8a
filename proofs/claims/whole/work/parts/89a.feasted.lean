/-! FEASTED, in the class (made by wip/whole/gen89a.py) -/
theorem s_125 {X : Nat × (Nat → Int32)} {d : Nat} {p : Nat → Nat} {sg : Mg} {B : Nat} {S : Nat → Int32} (hI : Inv B S) (hL : cwL 250 sg S) (hD : cwD 200 sg S) {v : Nat} {t : Nat} (u_v : v ≤ 5) (u_t : t ≤ 200100) : gF X (d + 5) 125 [vR 200, vI (nI v), vI (nI t)] p sg (fun r => r = gRv p sg (if ¬ (((S 10 >>> (S (17 + 16 * v + (t % sn S 9)) &&& 31)) &&& 1) = 0) then 1 else 0)) := by
  have b0 := hI.b0; have b1 := hI.b1; have b2 := hI.b2; have b3 := hI.b3; have b4 := hI.b4; have b5 := hI.b5; have b6 := hI.b6; have b7 := hI.b7; have b8 := hI.b8; have b9 := hI.b9; have b14 := hI.b14
  refine g_in (cd := k_125) (nL := 3) (rc := 11) rfl (g_A (a := 200) (kd := 0) (n := 10) rfl (by decide)) (g_c1 rfl) ?_
  show gW X (d + 4) k_125 0 [some (vR 200), some (vI (nI v)), some (vI (nI t))] [] p sg _
  refine g_pure 2 (i' := 2) (lv' := [some (vR 200), some (vI (nI v)), some (vI (nI t))]) (st' := [vR 202]) rfl ?_
  refine g_getI rfl (g_A (a := 202) (kd := 0) (n := 3) rfl (by decide)) (show _ = S 10 from hD.f6) ?_
  refine g_pure 3 (i' := 6) (lv' := [some (vR 200), some (vI (nI v)), some (vI (nI t))]) (st' := [vI (nI t), vI (nI v), vR 200, vI (S 10)]) rfl ?_
  refine g_cV1 rfl (args := [vR 200, vI (nI v), vI (nI t)]) (rest := [vI (S 10)]) rfl rfl rfl (s_110 (d := d + 1) hI hL hD (by omega) (by omega)) ?_
  have t1 := Nat.mod_lt (t) (y := sn S 9) (by omega)
  refine g_pure 3 (i' := 10) (lv' := [some (vR 200), some (vI (nI v)), some (vI (nI t))]) (st' := [vI ((S 10 >>> (S (17 + 16 * v + (t % sn S 9)) &&& 31)) &&& 1)]) rfl ?_
  refine g_if1 (i' := 13) (P := ((S 10 >>> (S (17 + 16 * v + (t % sn S 9)) &&& 31)) &&& 1) = 0) rfl rfl Iff.rfl (fun h2 => ?_) (fun h2 => ?_)
  · refine g_pure 1 (i' := 14) (lv' := [some (vR 200), some (vI (nI v)), some (vI (nI t))]) (st' := [vI 0]) rfl ?_
    refine g_bret rfl g_nar0 ?_
    exact (congrArg (gRv p sg) (if_neg (fun n9 => n9 h2)).symm)
  · refine g_pure 2 (i' := 14) (lv' := [some (vR 200), some (vI (nI v)), some (vI (nI t))]) (st' := [vI 1]) rfl ?_
    refine g_bret rfl g_nar1 ?_
    exact (congrArg (gRv p sg) (if_pos h2).symm)

/-- a day of the feast, there and then -/
def ftB (S : Nat → Int32) (v T : Nat) : Bool := decide (((S 10 >>> (S (17 + 16 * v + (T % sn S 9)) &&& 31)) &&& 1) = 1)
theorem s_125f {X : Nat × (Nat → Int32)} {d : Nat} {p : Nat → Nat} {sg : Mg} {B : Nat} {S : Nat → Int32} (hI : Inv B S) (hL : cwL 250 sg S) (hD : cwD 200 sg S) {v t : Nat} (u_v : v ≤ 5) (u_t : t ≤ 200100) : gF X (d + 5) 125 [vR 200, vI (nI v), vI (nI t)] p sg (fun r => r = gRv p sg (if ftB S v t = true then 1 else 0)) := by
  refine gF_mono (s_125 hI hL hD u_v u_t) (fun r hr => hr.trans (congrArg (gRv p sg) (g_ite ?_)))
  unfold ftB
  rw [decide_eq_true_iff]
  rcases i32_bit (S 10 >>> (S (17 + 16 * v + (t % sn S 9)) &&& 31)) with h | h
  · rw [h]; decide
  · rw [h]; decide
def feN (S : Nat → Int32) (t v : Nat) : Nat := if ¬ t ≤ 0 ∧ ftB S v (sn S 8 + t) = true then 1 else 0
/-- feasts that can be lived, one more; 0: one can't be there -/
def rF (S : Nat → Int32) (G : Nat → Nat) (t v b i : Nat) : Nat := if i = 6 * t + v then max (G i) (b + feN S t v + 1) else G i
def rdG (S : Nat → Int32) (t v b : Nat) : Nat → (Nat → Nat) → Nat → Nat
  | 0, G => G
  | r + 1, G => if (sn S (177 + 3 * r) = v ∨ sn S (177 + 3 * r + 1) = v) then rF S (rdG S t v b r G) (t + sn S (177 + 3 * r + 2)) (otN S r v) b else rdG S t v b r G
def ceG (S : Nat → Int32) (k : Nat) (G : Nat → Nat) (t v : Nat) : Nat → Nat := if bd S k v (sn S 8 + t) = true then rF S G (t + 1) v (G (6 * t + v) - 1) else rdG S t v (G (6 * t + v) - 1) (sn S 3) (rF S G (t + 1) v (G (6 * t + v) - 1))
def feV (S : Nat → Int32) (k t : Nat) (Z : (Nat → Nat) × Nat) : Nat → (Nat → Nat) × Nat
  | 0 => Z
  | j + 1 => if (feV S k t Z j).1 (6 * t + j) = 0 then feV S k t Z j else (ceG S k (feV S k t Z j).1 t j, max (feV S k t Z j).2 ((feV S k t Z j).1 (6 * t + j) - 1))
def feT (S : Nat → Int32) (k : Nat) (Z : (Nat → Nat) × Nat) : Nat → (Nat → Nat) × Nat
  | 0 => Z
  | t + 1 => feV S k t (feT S k Z t) (sn S 0)
def feZ (S : Nat → Int32) (k n : Nat) : (Nat → Nat) × Nat := if stN S k - sn S 8 ≤ n then (rF S (fun _ => 0) (stN S k - sn S 8) (hmN S k) 0, 0) else (fun _ => 0, 0)
/-- no more feasts than dawns -/
def gB (G : Nat → Nat) : Prop := ∀ t v, v < 6 → G (6 * t + v) ≤ t + 1
theorem gB.rF {S : Nat → Int32} {G : Nat → Nat} (h : gB G) {t v b : Nat} (hv : v < 6) (hb : b + feN S t v ≤ t) : gB (rF S G t v b) := fun t' v' hv' => by
  unfold Jvm.Pilot.CDayTablesLaw_law_r3725_aad492.rF
  have := h t' v' hv'
  split
  · have : t' = t := by omega
    subst this
    omega
  · exact this
theorem feN_le {S : Nat → Int32} {t v : Nat} : feN S t v ≤ 1 ∧ feN S 0 v = 0 := by
  unfold feN
  refine ⟨?_, if_neg (fun h => h.1 (Nat.le_refl _))⟩
  split <;> omega
theorem gB.rd {B : Nat} {S : Nat → Int32} (hI : Inv B S) {G : Nat → Nat} (h : gB G) {t v b : Nat} (hb : b ≤ t) : ∀ r, r ≤ sn S 3 → gB (rdG S t v b r G)
  | 0, _ => h
  | r + 1, hr => by
    have b0 := hI.b0
    have h1 := gB.rd hI h (v := v) hb r (by omega)
    unfold rdG
    split
    · have hl := (hI.roa (show r < sn S 3 by omega)).2.2.2.1
      have := otN_lt hI (show r < sn S 3 by omega) v
      exact h1.rF (by omega) (by have := (feN_le (S := S) (t := t + sn S (177 + 3 * r + 2)) (v := otN S r v)).1; omega)
    · exact h1
theorem gB.ce {B : Nat} {S : Nat → Int32} (hI : Inv B S) {G : Nat → Nat} (h : gB G) {k t v : Nat} (hv : v < sn S 0) : gB (ceG S k G t v) := by
  have b0 := hI.b0
  have h1 := h t v (by omega)
  have h2 : gB (Jvm.Pilot.CDayTablesLaw_law_r3725_aad492.rF S G (t + 1) v (G (6 * t + v) - 1)) := h.rF (by omega) (by have := (feN_le (S := S) (t := t + 1) (v := v)).1; omega)
  unfold ceG
  split
  · exact h2
  · exact h2.rd hI (by omega) _ (Nat.le_refl _)
theorem feV_ok {B : Nat} {S : Nat → Int32} (hI : Inv B S) {k t : Nat} {Z : (Nat → Nat) × Nat} (h : gB Z.1) (hZ : Z.2 ≤ t) : ∀ j, j ≤ sn S 0 → gB (feV S k t Z j).1 ∧ (feV S k t Z j).2 ≤ t
  | 0, _ => ⟨h, hZ⟩
  | j + 1, hj => by
    have b0 := hI.b0
    obtain ⟨h1, h2⟩ := feV_ok hI (k := k) h hZ j (by omega)
    have h3 := h1 t j (by omega)
    unfold feV
    split
    · exact ⟨h1, h2⟩
    · exact ⟨h1.ce hI (by omega), by dsimp only; omega⟩
theorem feT_ok {B : Nat} {S : Nat → Int32} (hI : Inv B S) {k : Nat} {Z : (Nat → Nat) × Nat} (h : gB Z.1) (hZ : Z.2 = 0) : ∀ t, gB (feT S k Z t).1 ∧ (feT S k Z t).2 ≤ t - 1
  | 0 => ⟨h, by rw [show (feT S k Z 0).2 = Z.2 from rfl]; omega⟩
  | t + 1 => by
    obtain ⟨h1, h2⟩ := feT_ok hI (k := k) h hZ t
    have := feV_ok hI (k := k) h1 (show (feT S k Z t).2 ≤ t by omega) _ (Nat.le_refl _)
    exact ⟨this.1, this.2⟩
theorem feZ_ok {S : Nat → Int32} {k n : Nat} (hv : hmN S k < 6) : gB (feZ S k n).1 ∧ (feZ S k n).2 = 0 := by
  have h0 : gB (fun _ => 0) := fun _ _ _ => Nat.zero_le _
  unfold feZ
  split
  · refine ⟨h0.rF hv ?_, rfl⟩
    have := feN_le (S := S) (t := stN S k - sn S 8) (v := hmN S k)
    rcases Nat.eq_zero_or_pos (stN S k - sn S 8) with e | e
    · rw [e] at this ⊢; omega
    · omega
  · exact ⟨h0, rfl⟩
/-- nothing is there before one comes -/
theorem feT_skip {B : Nat} {S : Nat → Int32} (hI : Inv B S) {k n : Nat} (hv : hmN S k < 6) : ∀ t, t ≤ stN S k - sn S 8 ∨ n < stN S k - sn S 8 → feT S k (feZ S k n) t = feZ S k n
  | 0, _ => rfl
  | t + 1, ht => by
    have b0 := hI.b0
    have h1 := feT_skip hI (k := k) (n := n) hv t (by omega)
    have z : ∀ j, j < 6 → (feZ S k n).1 (6 * t + j) = 0 := fun j hj => by
      unfold feZ
      split
      · dsimp only
        unfold rF
        rw [if_neg (by omega)]
      · rfl
    have key : ∀ j, j ≤ sn S 0 → feV S k t (feZ S k n) j = feZ S k n := by
      intro j
      induction j with
      | zero => intro _; rfl
      | succ j ih =>
        intro hj
        have ih := ih (by omega)
        unfold feV
        rw [ih, if_pos (z j (by omega))]
    show feV S k t (feT S k (feZ S k n) t) (sn S 0) = _
    rw [h1]
    exact key _ (Nat.le_refl _)
/-- in the class's rows, up to n -/
def fcM (n : Nat) (s : Mg) (G : Nat → Nat) : Prop := ∀ t v, t ≤ n → v < 6 → s (100 + t) v = nI (G (6 * t + v)) - 1
theorem fcM.later {S : Nat → Int32} {n t v b : Nat} {s : Mg} {G : Nat → Nat} (h : fcM n s G) (ht : n < t) : fcM n s (rF S G t v b) := fun t' v' ht' hv' => by
  unfold rF
  rw [if_neg (by omega)]
  exact h t' v' ht' hv'
theorem fcM.laters {B : Nat} {S : Nat → Int32} (hI : Inv B S) {n t v b : Nat} {s : Mg} {G : Nat → Nat} (h : fcM n s G) (ht : n ≤ t) : ∀ r, r ≤ sn S 3 → fcM n s (rdG S t v b r G)
  | 0, _ => h
  | r + 1, hr => by
    have h1 := fcM.laters hI h (v := v) (b := b) ht r (by omega)
    unfold rdG
    split
    · have := (hI.roa (show r < sn S 3 by omega)).2.2.2.1
      exact h1.later (by omega)
    · exact h1
theorem fcM.eq {n : Nat} {s s' : Mg} {G : Nat → Nat} (h : fcM n s G) (hn : n ≤ 60) (e : ∀ c, 100 ≤ c → c ≤ 160 → s' c = s c) : fcM n s' G := fun t v ht hv => by rw [e _ (by omega) (by omega)]; exact h t v ht hv
theorem m1_max {x b : Nat} (hx : x ≤ 200) (hb : b ≤ 200) : (if nI x - 1 < nI b then nI b else nI x - 1) = nI (max x (b + 1)) - 1 := by
  have e : nI b = nI (b + 1) - 1 := by rw [← nI_add, show nI 1 = 1 from rfl, Int32.add_sub_cancel]
  by_cases h : x ≤ b
  · rw [if_pos ((m1_lt (by omega) (by omega)).mpr h), Nat.max_eq_right (by omega), ← e]
  · rw [if_neg (fun h9 => h ((m1_lt (by omega) (by omega)).mp h9)), Nat.max_eq_left (by omega)]
theorem fcM.put {S : Nat → Int32} {n t v b y : Nat} {s s' : Mg} {G : Nat → Nat} (h : fcM n s G) (hn : n ≤ 60) (ht : t ≤ n) (hv : v < 6) (hg : gB G) (hb : b ≤ 60) (hy : y = b + feN S t v) (e : s' = mu s (100 + t) v (if s (100 + t) v < nI y then nI y else s (100 + t) v)) : fcM n s' (rF S G t v b) := by
  have h9 := (feN_le (S := S) (t := t) (v := v)).1
  have hx := hg t v hv
  rw [h t v ht hv, m1_max (by omega) (by omega), hy] at e
  intro t' v' ht' hv'
  unfold rF
  rw [e]
  by_cases c : 6 * t' + v' = 6 * t + v
  · have e1 : t' = t := by omega
    have e2 : v' = v := by omega
    subst e1 e2
    rw [mu_self, if_pos rfl]
  · rw [if_neg c]
    by_cases c2 : t' = t
    · subst c2
      rw [mu_idx (by omega)]
      exact h t' v' ht' hv'
    · rw [mu_ne (by omega)]
      exact h t' v' ht' hv'

theorem b_100_0 {X : Nat × (Nat → Int32)} {d : Nat} {p : Nat → Nat} {sg : Mg} {Q : am_R → Prop} {B : Nat} {S : Nat → Int32} (hI : Inv B S) (hL : cwL 250 sg S) (hD : cwD 200 sg S) {v : Nat} {t : Nat} {n : Nat} {b : Nat} (u_v : v ≤ 5) (u_t : t ≤ 65) (u_n : n ≤ 60) (u_b : b ≤ 60)
    (o1 : (n < t) → Q (gR0 p sg))
    (o2 : (¬ (n < t)) → (t ≤ 0) → ∀ s6 : Mg, s6 = mu sg (100 + t) v (if (sg (100 + t) v) < (nI b) then (nI b) else (sg (100 + t) v)) → Q (gR0 p s6))
    (o3 : (¬ (n < t)) → (¬ (t ≤ 0)) → (¬ (ftB S v (sn S 8 + t) = true)) → ∀ s9 : Mg, s9 = mu sg (100 + t) v (if (sg (100 + t) v) < (nI b) then (nI b) else (sg (100 + t) v)) → Q (gR0 p s9))
    (o4 : (¬ (n < t)) → (¬ (t ≤ 0)) → ((ftB S v (sn S 8 + t) = true)) → ∀ s11 : Mg, s11 = mu sg (100 + t) v (if (sg (100 + t) v) < (nI (b + 1)) then (nI (b + 1)) else (sg (100 + t) v)) → Q (gR0 p s11)) :
    gW X (d + 5) k_100 0 [some (vR 8), some (vI (nI v)), some (vI (nI t)), some (vI (nI n)), some (vI (nI b)), none] [] p sg Q := by
  have b0 := hI.b0; have b1 := hI.b1; have b2 := hI.b2; have b3 := hI.b3; have b4 := hI.b4; have b5 := hI.b5; have b6 := hI.b6; have b7 := hI.b7; have b8 := hI.b8; have b9 := hI.b9; have b14 := hI.b14
  refine g_pure 1 (i' := 1) (lv' := [some (vR 8), some (vI (nI v)), some (vI (nI t)), some (vI (nI n)), some (vI (nI b)), none]) (st' := [vI (nI t)]) rfl ?_
  refine g_if1 (i' := 46) (P := t < 0) rfl rfl (g_ltN (show nI t = nI t from (rfl : nI t = nI t)) (show 0 = nI 0 from (show (0 : Int32) = nI 0 from rfl)) (by omega) (by omega)) (fun h1 => absurd h1 (by omega)) (fun _ => ?_)
  refine g_pure 2 (i' := 4) (lv' := [some (vR 8), some (vI (nI v)), some (vI (nI t)), some (vI (nI n)), some (vI (nI b)), none]) (st' := [vI (nI n), vI (nI t)]) rfl ?_
  refine g_if2 (i' := 46) (P := n < t) rfl rfl (g_gtN (show nI t = nI t from (rfl : nI t = nI t)) (show nI n = nI n from (rfl : nI n = nI n)) (by omega) (by omega)) (fun h2 => ?_) (fun h2 => ?_)
  · refine g_vret rfl ?_
    exact o1 h2
  · refine g_pure 3 (i' := 8) (lv' := [some (vR 8), some (vI (nI v)), some (vI (nI t)), some (vI (nI n)), some (vI (nI b)), none]) (st' := [vR 14, vI (nI t)]) rfl ?_
    refine g_len rfl (by decide) (by decide) (g_A (a := 14) (kd := 5) (n := 61) rfl (by decide)) ?_
    refine gW_eq (lv' := [some (vR 8), some (vI (nI v)), some (vI (nI t)), some (vI (nI n)), some (vI (nI b)), none]) (st' := [vI 61, vI (nI t)]) rfl (by rw [(show (nI 61 : Int32) = 61 from rfl)]) rfl ?_
    refine g_if2 (i' := 46) (P := 61 ≤ t) rfl rfl (g_geN (show nI t = nI t from (rfl : nI t = nI t)) (show 61 = nI 61 from (show (61 : Int32) = nI 61 from rfl)) (by omega) (by omega)) (fun h3 => absurd h3 (by omega)) (fun _ => ?_)
    refine g_pure 1 (i' := 11) (lv' := [some (vR 8), some (vI (nI v)), some (vI (nI t)), some (vI (nI n)), some (vI (nI b)), none]) (st' := [vI (nI t)]) rfl ?_
    refine g_if1 (i' := 24) (P := t ≤ 0) rfl rfl (g_leN (show nI t = nI t from (rfl : nI t = nI t)) (show 0 = nI 0 from (show (0 : Int32) = nI 0 from rfl)) (by omega) (by omega)) (fun h4 => ?_) (fun h4 => ?_)
    · refine g_pure 5 (i' := 29) (lv' := [some (vR 8), some (vI (nI v)), some (vI (nI t)), some (vI (nI n)), some (vI (nI b)), some (vI 0)]) (st' := [vI (nI t), vR 14]) rfl ?_
      refine g_aald rfl (Or.inl rfl) (g_A (a := 14) (kd := 5) (n := 61) rfl (by decide)) (by decide) (show nI t = nI t from (rfl : nI t = nI t)) (by omega) (gR_14 (by omega)) ?_
      refine g_pure 4 (i' := 34) (lv' := [some (vR 8), some (vI (nI v)), some (vI (nI t)), some (vI (nI n)), some (vI (nI b)), some (vI 0)]) (st' := [vI (nI t), vR 14, vI (nI v), vR (100 + t)]) rfl ?_
      refine g_aald rfl (Or.inl rfl) (g_A (a := 14) (kd := 5) (n := 61) rfl (by decide)) (by decide) (show nI t = nI t from (rfl : nI t = nI t)) (by omega) (gR_14 (by omega)) ?_
      refine g_pure 1 (i' := 36) (lv' := [some (vR 8), some (vI (nI v)), some (vI (nI t)), some (vI (nI n)), some (vI (nI b)), some (vI 0)]) (st' := [vI (nI v), vR (100 + t), vI (nI v), vR (100 + t)]) rfl ?_
      refine g_ald rfl (gA_14 (by omega)) (by decide) (show nI v = nI v from (rfl : nI v = nI v)) (by omega) (show _ = sg (100 + t) v from rfl) ?_
      refine g_pure 1 (i' := 38) (lv' := [some (vR 8), some (vI (nI v)), some (vI (nI t)), some (vI (nI n)), some (vI (nI b)), some (vI 0)]) (st' := [vI 0, vI (sg (100 + t) v), vI (nI v), vR (100 + t)]) rfl ?_
      refine g_if1 (i' := 43) (P := 0 = 0) rfl rfl (g_eqN (show 0 = nI 0 from (show (0 : Int32) = nI 0 from rfl)) (show 0 = nI 0 from (show (0 : Int32) = nI 0 from rfl)) (by omega) (by omega)) (fun _ => ?_) (fun h5 => absurd (by omega) h5)
      refine g_pure 1 (i' := 44) (lv' := [some (vR 8), some (vI (nI v)), some (vI (nI t)), some (vI (nI n)), some (vI (nI b)), some (vI 0)]) (st' := [vI (nI b), vI (sg (100 + t) v), vI (nI v), vR (100 + t)]) rfl ?_
      refine g_cS1 rfl (args := [vI (sg (100 + t) v), vI (nI b)]) (rest := [vI (nI v), vR (100 + t)]) rfl rfl rfl (s_316 (d := d + 4) ) ?_
      refine g_ast rfl (gA_14 (by omega)) (by decide) (show nI v = nI v from (rfl : nI v = nI v)) (by omega) ?_
      refine g_setv (fun s6 es6 => ?_)
      have hLs6 : cwL 250 s6 S := by rw [es6]; exact hL.out (by omega)
      have hDs6 : cwD 200 s6 S := by rw [es6]; exact hD.out (by omega)
      refine g_vret rfl ?_
      exact o2 h2 h4 s6 es6
    · refine g_pure 5 (i' := 17) (lv' := [some (vR 8), some (vI (nI v)), some (vI (nI t)), some (vI (nI n)), some (vI (nI b)), none]) (st' := [vR 250, vI (nI v), vR 200]) rfl ?_
      refine g_getI rfl (g_A (a := 250) (kd := 0) (n := 6) rfl (by decide)) (show _ = S 8 from hL.f12) ?_
      refine g_pure 2 (i' := 20) (lv' := [some (vR 8), some (vI (nI v)), some (vI (nI t)), some (vI (nI n)), some (vI (nI b)), none]) (st' := [vI (S 8 + nI t), vI (nI v), vR 200]) rfl ?_
      refine gW_eq (lv' := [some (vR 8), some (vI (nI v)), some (vI (nI t)), some (vI (nI n)), some (vI (nI b)), none]) (st' := [vI (nI (sn S 8 + t)), vI (nI v), vR 200]) rfl (by rw [(show (S 8 + nI t) = nI (sn S 8 + t) from ((g_add (hI.c8) (rfl : nI t = nI t))).trans (congrArg nI (by omega)))]) rfl ?_
      refine g_cV1 rfl (args := [vR 200, vI (nI v), vI (nI (sn S 8 + t))]) (rest := []) rfl rfl rfl (s_125f (d := d) hI hL hD (by omega) (by omega)) ?_
      refine g_if1 (i' := 24) (P := ¬ (ftB S v (sn S 8 + t) = true)) rfl rfl g_eqB (fun h7 => ?_) (fun h7 => ?_)
      · refine g_pure 5 (i' := 29) (lv' := [some (vR 8), some (vI (nI v)), some (vI (nI t)), some (vI (nI n)), some (vI (nI b)), some (vI 0)]) (st' := [vI (nI t), vR 14]) rfl ?_
        refine g_aald rfl (Or.inl rfl) (g_A (a := 14) (kd := 5) (n := 61) rfl (by decide)) (by decide) (show nI t = nI t from (rfl : nI t = nI t)) (by omega) (gR_14 (by omega)) ?_
        refine g_pure 4 (i' := 34) (lv' := [some (vR 8), some (vI (nI v)), some (vI (nI t)), some (vI (nI n)), some (vI (nI b)), some (vI 0)]) (st' := [vI (nI t), vR 14, vI (nI v), vR (100 + t)]) rfl ?_
        refine g_aald rfl (Or.inl rfl) (g_A (a := 14) (kd := 5) (n := 61) rfl (by decide)) (by decide) (show nI t = nI t from (rfl : nI t = nI t)) (by omega) (gR_14 (by omega)) ?_
        refine g_pure 1 (i' := 36) (lv' := [some (vR 8), some (vI (nI v)), some (vI (nI t)), some (vI (nI n)), some (vI (nI b)), some (vI 0)]) (st' := [vI (nI v), vR (100 + t), vI (nI v), vR (100 + t)]) rfl ?_
        refine g_ald rfl (gA_14 (by omega)) (by decide) (show nI v = nI v from (rfl : nI v = nI v)) (by omega) (show _ = sg (100 + t) v from rfl) ?_
        refine g_pure 1 (i' := 38) (lv' := [some (vR 8), some (vI (nI v)), some (vI (nI t)), some (vI (nI n)), some (vI (nI b)), some (vI 0)]) (st' := [vI 0, vI (sg (100 + t) v), vI (nI v), vR (100 + t)]) rfl ?_
        refine g_if1 (i' := 43) (P := 0 = 0) rfl rfl (g_eqN (show 0 = nI 0 from (show (0 : Int32) = nI 0 from rfl)) (show 0 = nI 0 from (show (0 : Int32) = nI 0 from rfl)) (by omega) (by omega)) (fun _ => ?_) (fun h8 => absurd (by omega) h8)
        refine g_pure 1 (i' := 44) (lv' := [some (vR 8), some (vI (nI v)), some (vI (nI t)), some (vI (nI n)), some (vI (nI b)), some (vI 0)]) (st' := [vI (nI b), vI (sg (100 + t) v), vI (nI v), vR (100 + t)]) rfl ?_
        refine g_cS1 rfl (args := [vI (sg (100 + t) v), vI (nI b)]) (rest := [vI (nI v), vR (100 + t)]) rfl rfl rfl (s_316 (d := d + 4) ) ?_
        refine g_ast rfl (gA_14 (by omega)) (by decide) (show nI v = nI v from (rfl : nI v = nI v)) (by omega) ?_
        refine g_setv (fun s9 es9 => ?_)
        have hLs9 : cwL 250 s9 S := by rw [es9]; exact hL.out (by omega)
        have hDs9 : cwD 200 s9 S := by rw [es9]; exact hD.out (by omega)
        refine g_vret rfl ?_
        exact o3 h2 h4 h7 s9 es9
      · have h7 := Classical.not_not.mp h7
        refine g_pure 6 (i' := 29) (lv' := [some (vR 8), some (vI (nI v)), some (vI (nI t)), some (vI (nI n)), some (vI (nI b)), some (vI 1)]) (st' := [vI (nI t), vR 14]) rfl ?_
        refine g_aald rfl (Or.inl rfl) (g_A (a := 14) (kd := 5) (n := 61) rfl (by decide)) (by decide) (show nI t = nI t from (rfl : nI t = nI t)) (by omega) (gR_14 (by omega)) ?_
        refine g_pure 4 (i' := 34) (lv' := [some (vR 8), some (vI (nI v)), some (vI (nI t)), some (vI (nI n)), some (vI (nI b)), some (vI 1)]) (st' := [vI (nI t), vR 14, vI (nI v), vR (100 + t)]) rfl ?_
        refine g_aald rfl (Or.inl rfl) (g_A (a := 14) (kd := 5) (n := 61) rfl (by decide)) (by decide) (show nI t = nI t from (rfl : nI t = nI t)) (by omega) (gR_14 (by omega)) ?_
        refine g_pure 1 (i' := 36) (lv' := [some (vR 8), some (vI (nI v)), some (vI (nI t)), some (vI (nI n)), some (vI (nI b)), some (vI 1)]) (st' := [vI (nI v), vR (100 + t), vI (nI v), vR (100 + t)]) rfl ?_
        refine g_ald rfl (gA_14 (by omega)) (by decide) (show nI v = nI v from (rfl : nI v = nI v)) (by omega) (show _ = sg (100 + t) v from rfl) ?_
        refine g_pure 1 (i' := 38) (lv' := [some (vR 8), some (vI (nI v)), some (vI (nI t)), some (vI (nI n)), some (vI (nI b)), some (vI 1)]) (st' := [vI 1, vI (sg (100 + t) v), vI (nI v), vR (100 + t)]) rfl ?_
        refine g_if1 (i' := 43) (P := 1 = 0) rfl rfl (g_eqN (show 1 = nI 1 from (show (1 : Int32) = nI 1 from rfl)) (show 0 = nI 0 from (show (0 : Int32) = nI 0 from rfl)) (by omega) (by omega)) (fun h10 => absurd h10 (by omega)) (fun _ => ?_)
        refine g_pure 4 (i' := 44) (lv' := [some (vR 8), some (vI (nI v)), some (vI (nI t)), some (vI (nI n)), some (vI (nI b)), some (vI 1)]) (st' := [vI (nI b + 1), vI (sg (100 + t) v), vI (nI v), vR (100 + t)]) rfl ?_
        refine gW_eq (lv' := [some (vR 8), some (vI (nI v)), some (vI (nI t)), some (vI (nI n)), some (vI (nI b)), some (vI 1)]) (st' := [vI (nI (b + 1)), vI (sg (100 + t) v), vI (nI v), vR (100 + t)]) rfl (by rw [(show (nI b + 1) = nI (b + 1) from ((g_add (rfl : nI b = nI b) (show (1 : Int32) = nI 1 from rfl))).trans (congrArg nI (by omega)))]) rfl ?_
        refine g_cS1 rfl (args := [vI (sg (100 + t) v), vI (nI (b + 1))]) (rest := [vI (nI v), vR (100 + t)]) rfl rfl rfl (s_316 (d := d + 4) ) ?_
        refine g_ast rfl (gA_14 (by omega)) (by decide) (show nI v = nI v from (rfl : nI v = nI v)) (by omega) ?_
        refine g_setv (fun s11 es11 => ?_)
        have hLs11 : cwL 250 s11 S := by rw [es11]; exact hL.out (by omega)
        have hDs11 : cwD 200 s11 S := by rw [es11]; exact hD.out (by omega)
        refine g_vret rfl ?_
        exact o4 h2 h4 h7 s11 es11

def FF (sg s : Mg) : Prop := ∀ c, c < 100 ∨ 160 < c → s c = sg c
theorem s_100 {X : Nat × (Nat → Int32)} {d : Nat} {p : Nat → Nat} {sg : Mg} {B : Nat} {S : Nat → Int32} (hI : Inv B S) (hL : cwL 250 sg S) (hD : cwD 200 sg S) {v t n b : Nat} {G : Nat → Nat} (hv : v ≤ 5) (ht : t ≤ 65) (hn : n ≤ 60) (hb : b ≤ 60) (hM : fcM n sg G) (hg : gB G) : gF X (d + 6) 100 [vR 8, vI (nI v), vI (nI t), vI (nI n), vI (nI b)] p sg (fun r => ∃ s, (FF sg s ∧ fcM n s (rF S G t v b)) ∧ r = gR0 p s) := by
  refine g_in (cd := k_100) (nL := 6) (rc := 10) rfl (g_A (a := 8) (kd := 0) (n := 9) rfl (by decide)) (g_c1 rfl) (b_100_0 hI hL hD hv ht hn hb (fun h => ⟨sg, ⟨fun _ _ => rfl, hM.later h⟩, rfl⟩) (fun h1 h2 s6 e6 => ?_) (fun h1 h2 h3 s6 e6 => ?_) (fun h1 h2 h3 s6 e6 => ?_))
  · exact ⟨s6, ⟨fun c hc => by rw [e6, mu_ne (by omega)], hM.put (y := b) hn (by omega) (by omega) hg hb (by unfold feN; rw [if_neg (fun g => g.1 h2)]; rfl) e6⟩, rfl⟩
  · exact ⟨s6, ⟨fun c hc => by rw [e6, mu_ne (by omega)], hM.put (y := b) hn (by omega) (by omega) hg hb (by unfold feN; rw [if_neg (fun g => h3 g.2)]; rfl) e6⟩, rfl⟩
  · exact ⟨s6, ⟨fun c hc => by rw [e6, mu_ne (by omega)], hM.put (y := b + 1) hn (by omega) (by omega) hg hb (by unfold feN; rw [if_pos ⟨h2, h3⟩]) e6⟩, rfl⟩
