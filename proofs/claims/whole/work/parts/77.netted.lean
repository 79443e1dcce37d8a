/-! NETTED (made by wip/whole/gen77.py) -/
/-- what a debt makes one's balance more -/
def balF (S : Nat → Int32) (k j : Nat) : Int32 := if sn S (213 + 7 * j + 1) = k then S (213 + 7 * j + 2) else if sn S (213 + 7 * j) = k then -S (213 + 7 * j + 2) else 0
def bal (S : Nat → Int32) (k : Nat) : Int32 := sumI (balF S k) (sn S 4)
def smsF (f : Nat → Int32) (s p : Nat) : Int32 := if s.testBit p = true then f p else 0
def mxB (E : Nat → Nat) (s : Nat) : Nat → Nat
  | 0 => 0
  | p + 1 => if s.testBit p = true then max (mxB E s p) (E (s ^^^ 2 ^ p)) else mxB E s p
def evO (f : Nat → Int32) (n : Nat) (E : Nat → Nat) (s : Nat) : Nat := if sumI (smsF f s) n = 0 then mxB E s n + 1 else mxB E s n
def evT (f : Nat → Int32) (n : Nat) : Nat → Nat → Nat
  | 0 => fun _ => 0
  | t + 1 => fun s => if s = t ∧ t ≠ 0 then evO f n (evT f n t) t else evT f n t s
theorem x_lt : ∀ s, s < 256 → ∀ p, p < 8 → s.testBit p = true → s ^^^ 2 ^ p < s := by decide +kernel
theorem x_and : ∀ s, s < 256 → ∀ p, p < 8 → s.testBit p = true → nI s &&& ((1 <<< (nI p &&& 31)) ^^^ (-1)) = nI (s ^^^ 2 ^ p) := by decide +kernel
theorem x_low : ∀ s, s < 256 → 0 < s → nI s &&& (-(nI s)) = nI (2 ^ fnd (fun p => s.testBit p) 8 0) ∧ fnd (fun p => s.testBit p) 8 0 < 8 ∧ s.testBit (fnd (fun p => s.testBit p) 8 0) = true := by decide +kernel
theorem mxB_lt {E : Nat → Nat} {s : Nat} (hs : s < 256) (h0 : 0 < s) (hE : ∀ q, q < s → E q ≤ q) : ∀ n, n ≤ 8 → mxB E s n < s
  | 0, _ => h0
  | n + 1, h => by
    have h1 := mxB_lt hs h0 hE n (by omega)
    unfold mxB
    split
    · rename_i hb
      have h2 := x_lt s hs n (by omega) hb
      have h3 := hE _ h2
      omega
    · exact h1
theorem evT_le {f : Nat → Int32} {n : Nat} (hn : n ≤ 8) : ∀ t, t ≤ 256 → ∀ s, evT f n t s ≤ s
  | 0, _, s => Nat.zero_le s
  | t + 1, h, s => by
    have h1 := evT_le (f := f) hn t (by omega)
    show (if s = t ∧ t ≠ 0 then evO f n (evT f n t) t else evT f n t s) ≤ s
    split
    · rename_i h2
      have h3 := mxB_lt (E := evT f n t) (s := t) (by omega) (by omega) (fun q _ => h1 q) n hn
      unfold evO
      rw [h2.1]
      split
      · omega
      · omega
    · exact h1 s
theorem evT_0 {f : Nat → Int32} {n : Nat} : ∀ t, evT f n t 0 = 0
  | 0 => rfl
  | t + 1 => by
    show (if 0 = t ∧ t ≠ 0 then evO f n (evT f n t) t else evT f n t 0) = 0
    rw [if_neg (by omega), evT_0 t]
theorem sms_split {f : Nat → Int32} {s q : Nat} (hb : s.testBit q = true) : ∀ n, sumI (smsF f s) n = (if q < n then f q else 0) + sumI (smsF f (s ^^^ 2 ^ q)) n
  | 0 => by simp [sumI]
  | n + 1 => by
    have h := sms_split (f := f) hb n
    rw [sumI, sumI, h]
    by_cases e : q = n
    · subst e
      have h1 : (s ^^^ 2 ^ q).testBit q = false := by rw [Nat.testBit_xor, hb, Nat.testBit_two_pow_self]; rfl
      unfold smsF
      rw [if_neg (Nat.lt_irrefl _), if_pos (Nat.lt_succ_self _), hb, h1, if_pos rfl, if_neg (by decide), Int32.zero_add, Int32.add_zero, Int32.add_comm]
    · have h1 : (s ^^^ 2 ^ q).testBit n = s.testBit n := by rw [Nat.testBit_xor, Nat.testBit_two_pow_of_ne e]; simp
      have h2 : (q < n + 1) ↔ q < n := by omega
      unfold smsF at *
      rw [h1, Int32.add_assoc]
      simp only [h2]
theorem sms_zero {f : Nat → Int32} : ∀ n, sumI (smsF f 0) n = 0
  | 0 => rfl
  | n + 1 => by rw [sumI, sms_zero n]; unfold smsF; rw [Nat.zero_testBit]; rfl
theorem sms_one {f : Nat → Int32} {q n : Nat} (h : q < n) : sumI (smsF f (2 ^ q)) n = f q := by
  rw [sms_split (q := q) Nat.testBit_two_pow_self, Nat.xor_self, sms_zero, if_pos h, Int32.add_zero]
theorem nI_maxE {a b : Nat} {x : Int32} (hx : x = nI b) (ha : a < 2147483648) (hb : b < 2147483648) : (if nI a < x then x else nI a) = nI (max a b) := by
  subst hx
  by_cases h : a < b
  · rw [if_pos ((nI_ltI ha hb).mpr h), Nat.max_eq_right (by omega)]
  · rw [if_neg (fun h9 => h ((nI_ltI ha hb).mp h9)), Nat.max_eq_left (by omega)]

theorem b_63_0 {X : Nat × (Nat → Int32)} {d : Nat} {p : Nat → Nat} {sg : Mg} {Q : am_R → Prop} {B : Nat} {S : Nat → Int32} (hI : Inv B S) (hL : cwL 250 sg S) (hD : cwD 200 sg S) {k : Nat} (u_k : k ≤ 7)
    (o1 : gW X (d) k_63 4 [some (vR 21), some (vR 202), some (vI (nI k)), some (vI 0), some (vI 0), none] [] p sg Q) :
    gW X (d) k_63 0 [some (vR 21), some (vR 202), some (vI (nI k)), none, none, none] [] p sg Q := by
  have b0 := hI.b0; have b1 := hI.b1; have b2 := hI.b2; have b3 := hI.b3; have b4 := hI.b4; have b5 := hI.b5; have b6 := hI.b6; have b7 := hI.b7; have b8 := hI.b8; have b9 := hI.b9; have b14 := hI.b14
  refine g_pure 4 (i' := 4) (lv' := [some (vR 21), some (vR 202), some (vI (nI k)), some (vI 0), some (vI 0), none]) (st' := []) rfl ?_
  exact o1

theorem b_63_4 {X : Nat × (Nat → Int32)} {d : Nat} {p : Nat → Nat} {sg : Mg} {Q : am_R → Prop} {B : Nat} {S : Nat → Int32} (hI : Inv B S) (hL : cwL 250 sg S) (hD : cwD 200 sg S) {k : Nat} {t : Int32} {j : Nat} {z5 : Option AV} (u_k : k ≤ 7) (u_j : j ≤ 8)
    (o1 : (sn S 4 ≤ j) → Q (gRv p sg t))
    (o2 : (¬ (sn S 4 ≤ j)) → (¬ sn S (213 + 7 * j + 1) = k) → (¬ sn S (213 + 7 * j) = k) → gW X (d) k_63 4 [some (vR 21), some (vR 202), some (vI (nI k)), some (vI t), some (vI (nI (j + 1))), some (vR (234 + j))] [] p sg Q)
    (o3 : (¬ (sn S 4 ≤ j)) → (¬ sn S (213 + 7 * j + 1) = k) → (sn S (213 + 7 * j) = k) → gW X (d) k_63 4 [some (vR 21), some (vR 202), some (vI (nI k)), some (vI (t - S (213 + 7 * j + 2))), some (vI (nI (j + 1))), some (vR (234 + j))] [] p sg Q)
    (o4 : (¬ (sn S 4 ≤ j)) → (sn S (213 + 7 * j + 1) = k) → gW X (d) k_63 4 [some (vR 21), some (vR 202), some (vI (nI k)), some (vI (t + S (213 + 7 * j + 2))), some (vI (nI (j + 1))), some (vR (234 + j))] [] p sg Q) :
    gW X (d) k_63 4 [some (vR 21), some (vR 202), some (vI (nI k)), some (vI t), some (vI (nI j)), z5] [] p sg Q := by
  have b0 := hI.b0; have b1 := hI.b1; have b2 := hI.b2; have b3 := hI.b3; have b4 := hI.b4; have b5 := hI.b5; have b6 := hI.b6; have b7 := hI.b7; have b8 := hI.b8; have b9 := hI.b9; have b14 := hI.b14
  refine g_pure 4 (i' := 8) (lv' := [some (vR 21), some (vR 202), some (vI (nI k)), some (vI t), some (vI (nI j)), z5]) (st' := [vI 4, vR 203, vI (nI j)]) rfl ?_
  refine g_ald rfl (g_A (a := 203) (kd := 1) (n := 6) rfl (by decide)) (by decide) (show 4 = nI 4 from (show (4 : Int32) = nI 4 from rfl)) (by decide) (show _ = S 4 from (hD.cnt (by decide))) ?_
  refine g_if2 (i' := 40) (P := sn S 4 ≤ j) rfl rfl (g_geN (show nI j = nI j from (rfl : nI j = nI j)) (show S 4 = nI (sn S 4) from (hI.c4)) (by omega) (by omega)) (fun h1 => ?_) (fun h1 => ?_)
  · refine g_pure 1 (i' := 41) (lv' := [some (vR 21), some (vR 202), some (vI (nI k)), some (vI t), some (vI (nI j)), z5]) (st' := [vI t]) rfl ?_
    refine g_iret rfl ?_
    exact o1 h1
  · refine g_pure 3 (i' := 13) (lv' := [some (vR 21), some (vR 202), some (vI (nI k)), some (vI t), some (vI (nI j)), z5]) (st' := [vI (nI j), vR 206]) rfl ?_
    refine g_aald rfl (Or.inl rfl) (g_A (a := 206) (kd := 5) (n := 8) rfl (by decide)) (by decide) (show nI j = nI j from (rfl : nI j = nI j)) (by omega) (gR_206 (by omega)) ?_
    refine g_pure 3 (i' := 17) (lv' := [some (vR 21), some (vR 202), some (vI (nI k)), some (vI t), some (vI (nI j)), some (vR (234 + j))]) (st' := [vI 1, vR (234 + j)]) rfl ?_
    refine g_ald rfl (gA_206 (by omega)) (by decide) (show 1 = nI 1 from (show (1 : Int32) = nI 1 from rfl)) (by decide) (show _ = S (213 + 7 * j + 1) from (hD.deb 1 (by omega) (by decide))) ?_
    refine g_pure 1 (i' := 19) (lv' := [some (vR 21), some (vR 202), some (vI (nI k)), some (vI t), some (vI (nI j)), some (vR (234 + j))]) (st' := [vI (nI k), vI (S (213 + 7 * j + 1))]) rfl ?_
    have t2 := (hI.deb (k := j) (by omega)).2.1
    have t2b := t2.2
    refine g_if2 (i' := 27) (P := ¬ sn S (213 + 7 * j + 1) = k) rfl rfl (g_neN (show S (213 + 7 * j + 1) = nI (sn S (213 + 7 * j + 1)) from t2.1) (show nI k = nI k from (rfl : nI k = nI k)) (by omega) (by omega)) (fun h3 => ?_) (fun h3 => ?_)
    · refine g_pure 2 (i' := 29) (lv' := [some (vR 21), some (vR 202), some (vI (nI k)), some (vI t), some (vI (nI j)), some (vR (234 + j))]) (st' := [vI 0, vR (234 + j)]) rfl ?_
      refine g_ald rfl (gA_206 (by omega)) (by decide) (show 0 = nI 0 from (show (0 : Int32) = nI 0 from rfl)) (by decide) (show _ = S (213 + 7 * j) from (hD.deb 0 (by omega) (by decide))) ?_
      refine g_pure 1 (i' := 31) (lv' := [some (vR 21), some (vR 202), some (vI (nI k)), some (vI t), some (vI (nI j)), some (vR (234 + j))]) (st' := [vI (nI k), vI (S (213 + 7 * j))]) rfl ?_
      have t4 := (hI.deb (k := j) (by omega)).1
      have t4b := t4.2
      refine g_if2 (i' := 38) (P := ¬ sn S (213 + 7 * j) = k) rfl rfl (g_neN (show S (213 + 7 * j) = nI (sn S (213 + 7 * j)) from t4.1) (show nI k = nI k from (rfl : nI k = nI k)) (by omega) (by omega)) (fun h5 => ?_) (fun h5 => ?_)
      · refine g_pure 2 (i' := 4) (lv' := [some (vR 21), some (vR 202), some (vI (nI k)), some (vI t), some (vI (nI j + 1)), some (vR (234 + j))]) (st' := []) rfl ?_
        refine gW_eq (lv' := [some (vR 21), some (vR 202), some (vI (nI k)), some (vI t), some (vI (nI (j + 1))), some (vR (234 + j))]) (st' := []) (by rw [(show (nI j + 1) = nI (j + 1) from ((g_add (rfl : nI j = nI j) (show (1 : Int32) = nI 1 from rfl))).trans (congrArg nI (by omega)))]) rfl rfl ?_
        exact o2 h1 h3 h5
      · have h5 := Classical.not_not.mp h5
        refine g_pure 3 (i' := 35) (lv' := [some (vR 21), some (vR 202), some (vI (nI k)), some (vI t), some (vI (nI j)), some (vR (234 + j))]) (st' := [vI 2, vR (234 + j), vI t]) rfl ?_
        refine g_ald rfl (gA_206 (by omega)) (by decide) (show 2 = nI 2 from (show (2 : Int32) = nI 2 from rfl)) (by decide) (show _ = S (213 + 7 * j + 2) from (hD.deb 2 (by omega) (by decide))) ?_
        refine g_pure 4 (i' := 4) (lv' := [some (vR 21), some (vR 202), some (vI (nI k)), some (vI (t - S (213 + 7 * j + 2))), some (vI (nI j + 1)), some (vR (234 + j))]) (st' := []) rfl ?_
        refine gW_eq (lv' := [some (vR 21), some (vR 202), some (vI (nI k)), some (vI (t - S (213 + 7 * j + 2))), some (vI (nI (j + 1))), some (vR (234 + j))]) (st' := []) (by rw [(show (nI j + 1) = nI (j + 1) from ((g_add (rfl : nI j = nI j) (show (1 : Int32) = nI 1 from rfl))).trans (congrArg nI (by omega)))]) rfl rfl ?_
        exact o3 h1 h3 h5
    · have h3 := Classical.not_not.mp h3
      refine g_pure 3 (i' := 23) (lv' := [some (vR 21), some (vR 202), some (vI (nI k)), some (vI t), some (vI (nI j)), some (vR (234 + j))]) (st' := [vI 2, vR (234 + j), vI t]) rfl ?_
      refine g_ald rfl (gA_206 (by omega)) (by decide) (show 2 = nI 2 from (show (2 : Int32) = nI 2 from rfl)) (by decide) (show _ = S (213 + 7 * j + 2) from (hD.deb 2 (by omega) (by decide))) ?_
      refine g_pure 5 (i' := 4) (lv' := [some (vR 21), some (vR 202), some (vI (nI k)), some (vI (t + S (213 + 7 * j + 2))), some (vI (nI j + 1)), some (vR (234 + j))]) (st' := []) rfl ?_
      refine gW_eq (lv' := [some (vR 21), some (vR 202), some (vI (nI k)), some (vI (t + S (213 + 7 * j + 2))), some (vI (nI (j + 1))), some (vR (234 + j))]) (st' := []) (by rw [(show (nI j + 1) = nI (j + 1) from ((g_add (rfl : nI j = nI j) (show (1 : Int32) = nI 1 from rfl))).trans (congrArg nI (by omega)))]) rfl rfl ?_
      exact o4 h1 h3

theorem b_301_0 {X : Nat × (Nat → Int32)} {d : Nat} {p : Nat → Nat} {sg : Mg} {Q : am_R → Prop} {B : Nat} {S : Nat → Int32} (hI : Inv B S) (hS : sg 801 = S) {k : Nat} (u_k : k ≤ 7)
    (o1 : gW X (d + 1) k_301 4 [some (vR 800), some (vI (nI k)), some (vI 0), some (vI 0)] [] p sg Q) :
    gW X (d + 1) k_301 0 [some (vR 800), some (vI (nI k)), none, none] [] p sg Q := by
  have b0 := hI.b0; have b1 := hI.b1; have b2 := hI.b2; have b3 := hI.b3; have b4 := hI.b4; have b5 := hI.b5; have b6 := hI.b6; have b7 := hI.b7; have b8 := hI.b8; have b9 := hI.b9; have b14 := hI.b14
  refine g_pure 4 (i' := 4) (lv' := [some (vR 800), some (vI (nI k)), some (vI 0), some (vI 0)]) (st' := []) rfl ?_
  exact o1

theorem b_301_4 {X : Nat × (Nat → Int32)} {d : Nat} {p : Nat → Nat} {sg : Mg} {Q : am_R → Prop} {B : Nat} {S : Nat → Int32} (hI : Inv B S) (hS : sg 801 = S) {k : Nat} {t : Int32} {j : Nat} (u_k : k ≤ 7) (u_j : j ≤ 8)
    (o1 : (sn S 4 ≤ j) → Q (gRv p sg t))
    (o2 : (¬ (sn S 4 ≤ j)) → (¬ sn S (213 + 7 * j + 1) = k) → (¬ sn S (213 + 7 * j) = k) → gW X (d + 1) k_301 4 [some (vR 800), some (vI (nI k)), some (vI (t + (0 - 0))), some (vI (nI (j + 1)))] [] p sg Q)
    (o3 : (¬ (sn S 4 ≤ j)) → (¬ sn S (213 + 7 * j + 1) = k) → (sn S (213 + 7 * j) = k) → gW X (d + 1) k_301 4 [some (vR 800), some (vI (nI k)), some (vI (t + (0 - nI (sn S (213 + 7 * j + 2))))), some (vI (nI (j + 1)))] [] p sg Q)
    (o4 : (¬ (sn S 4 ≤ j)) → (sn S (213 + 7 * j + 1) = k) → (¬ sn S (213 + 7 * j) = k) → gW X (d + 1) k_301 4 [some (vR 800), some (vI (nI k)), some (vI (t + (nI (sn S (213 + 7 * j + 2)) - 0))), some (vI (nI (j + 1)))] [] p sg Q)
    (o5 : (¬ (sn S 4 ≤ j)) → (sn S (213 + 7 * j + 1) = k) → (sn S (213 + 7 * j) = k) → gW X (d + 1) k_301 4 [some (vR 800), some (vI (nI k)), some (vI (t + (S (213 + 7 * j + 2) - S (213 + 7 * j + 2)))), some (vI (nI (j + 1)))] [] p sg Q) :
    gW X (d + 1) k_301 4 [some (vR 800), some (vI (nI k)), some (vI t), some (vI (nI j))] [] p sg Q := by
  have b0 := hI.b0; have b1 := hI.b1; have b2 := hI.b2; have b3 := hI.b3; have b4 := hI.b4; have b5 := hI.b5; have b6 := hI.b6; have b7 := hI.b7; have b8 := hI.b8; have b9 := hI.b9; have b14 := hI.b14
  refine g_pure 4 (i' := 8) (lv' := [some (vR 800), some (vI (nI k)), some (vI t), some (vI (nI j))]) (st' := [vI 4, vR 801, vI (nI j)]) rfl ?_
  refine g_ald rfl (g_A (a := 801) (kd := 1) (n := 2407) rfl (by decide)) (by decide) (show 4 = nI 4 from (show (4 : Int32) = nI 4 from rfl)) (by decide) (show _ = S 4 from (congrFun hS 4)) ?_
  refine g_if2 (i' := 40) (P := sn S 4 ≤ j) rfl rfl (g_geN (show nI j = nI j from (rfl : nI j = nI j)) (show S 4 = nI (sn S 4) from (hI.c4)) (by omega) (by omega)) (fun h1 => ?_) (fun h1 => ?_)
  · refine g_pure 1 (i' := 41) (lv' := [some (vR 800), some (vI (nI k)), some (vI t), some (vI (nI j))]) (st' := [vI t]) rfl ?_
    refine g_iret rfl ?_
    exact o1 h1
  · refine g_pure 4 (i' := 14) (lv' := [some (vR 800), some (vI (nI k)), some (vI t), some (vI (nI j))]) (st' := [vI 1, vI (nI j), vR 800, vI t]) rfl ?_
    refine gW_eq (st' := [vI (nI 1), vI (nI j), vR 800, vI t]) rfl (by rw [(show (1 : Int32) = nI 1 from rfl)]) rfl ?_
    refine g_cV1 rfl (args := [vR 800, vI (nI j), vI (nI 1)]) (rest := [vI t]) rfl rfl rfl (s_243 (d := d) hS (by omega) (by omega)) ?_
    refine g_pure 1 (i' := 16) (lv' := [some (vR 800), some (vI (nI k)), some (vI t), some (vI (nI j))]) (st' := [vI (nI k), vI (S (213 + 7 * j + 1)), vI t]) rfl ?_
    have t2 := (hI.deb (k := j) (by omega)).2.1
    have t2b := t2.2
    refine g_if2 (i' := 22) (P := ¬ sn S (213 + 7 * j + 1) = k) rfl rfl (g_neN (show S (213 + 7 * j + 1) = nI (sn S (213 + 7 * j + 1)) from t2.1) (show nI k = nI k from (rfl : nI k = nI k)) (by omega) (by omega)) (fun h3 => ?_) (fun h3 => ?_)
    · refine g_pure 4 (i' := 26) (lv' := [some (vR 800), some (vI (nI k)), some (vI t), some (vI (nI j))]) (st' := [vI 0, vI (nI j), vR 800, vI 0, vI t]) rfl ?_
      refine gW_eq (st' := [vI (nI 0), vI (nI j), vR 800, vI 0, vI t]) rfl (by rw [(show (0 : Int32) = nI 0 from rfl)]) rfl ?_
      refine g_cV1 rfl (args := [vR 800, vI (nI j), vI (nI 0)]) (rest := [vI 0, vI t]) rfl rfl rfl (s_243 (d := d) hS (by omega) (by omega)) ?_
      refine gW_eq (st' := [vI (S (213 + 7 * j)), vI 0, vI t]) rfl (by rw [show S (213 + 7 * j + 0) = S (213 + 7 * j) from congrArg S (by omega)]) rfl ?_
      refine g_pure 1 (i' := 28) (lv' := [some (vR 800), some (vI (nI k)), some (vI t), some (vI (nI j))]) (st' := [vI (nI k), vI (S (213 + 7 * j)), vI 0, vI t]) rfl ?_
      have t4 := (hI.deb (k := j) (by omega)).1
      have t4b := t4.2
      refine g_if2 (i' := 34) (P := ¬ sn S (213 + 7 * j) = k) rfl rfl (g_neN (show S (213 + 7 * j) = nI (sn S (213 + 7 * j)) from t4.1) (show nI k = nI k from (rfl : nI k = nI k)) (by omega) (by omega)) (fun h5 => ?_) (fun h5 => ?_)
      · refine g_pure 6 (i' := 4) (lv' := [some (vR 800), some (vI (nI k)), some (vI (t + (0 - 0))), some (vI (nI j + 1))]) (st' := []) rfl ?_
        refine gW_eq (lv' := [some (vR 800), some (vI (nI k)), some (vI (t + (0 - 0))), some (vI (nI (j + 1)))]) (st' := []) (by rw [(show (nI j + 1) = nI (j + 1) from ((g_add (rfl : nI j = nI j) (show (1 : Int32) = nI 1 from rfl))).trans (congrArg nI (by omega)))]) rfl rfl ?_
        exact o2 h1 h3 h5
      · have h5 := Classical.not_not.mp h5
        refine g_pure 3 (i' := 32) (lv' := [some (vR 800), some (vI (nI k)), some (vI t), some (vI (nI j))]) (st' := [vI 2, vI (nI j), vR 800, vI 0, vI t]) rfl ?_
        refine gW_eq (st' := [vI (nI 2), vI (nI j), vR 800, vI 0, vI t]) rfl (by rw [(show (2 : Int32) = nI 2 from rfl)]) rfl ?_
        refine g_cV1 rfl (args := [vR 800, vI (nI j), vI (nI 2)]) (rest := [vI 0, vI t]) rfl rfl rfl (s_243 (d := d) hS (by omega) (by omega)) ?_
        have t6 := (hI.deb (k := j) (by omega)).2.2.1
        have t6b := t6.2
        refine g_pure 1 (i' := 35) (lv' := [some (vR 800), some (vI (nI k)), some (vI t), some (vI (nI j))]) (st' := [vI (S (213 + 7 * j + 2)), vI 0, vI t]) rfl ?_
        refine gW_eq (lv' := [some (vR 800), some (vI (nI k)), some (vI t), some (vI (nI j))]) (st' := [vI (nI (sn S (213 + 7 * j + 2))), vI 0, vI t]) rfl (by rw [(show S (213 + 7 * j + 2) = nI (sn S (213 + 7 * j + 2)) from t6.1)]) rfl ?_
        refine g_pure 5 (i' := 4) (lv' := [some (vR 800), some (vI (nI k)), some (vI (t + (0 - nI (sn S (213 + 7 * j + 2))))), some (vI (nI j + 1))]) (st' := []) rfl ?_
        refine gW_eq (lv' := [some (vR 800), some (vI (nI k)), some (vI (t + (0 - nI (sn S (213 + 7 * j + 2))))), some (vI (nI (j + 1)))]) (st' := []) (by rw [(show (nI j + 1) = nI (j + 1) from ((g_add (rfl : nI j = nI j) (show (1 : Int32) = nI 1 from rfl))).trans (congrArg nI (by omega)))]) rfl rfl ?_
        exact o3 h1 h3 h5
    · have h3 := Classical.not_not.mp h3
      refine g_pure 3 (i' := 20) (lv' := [some (vR 800), some (vI (nI k)), some (vI t), some (vI (nI j))]) (st' := [vI 2, vI (nI j), vR 800, vI t]) rfl ?_
      refine gW_eq (st' := [vI (nI 2), vI (nI j), vR 800, vI t]) rfl (by rw [(show (2 : Int32) = nI 2 from rfl)]) rfl ?_
      refine g_cV1 rfl (args := [vR 800, vI (nI j), vI (nI 2)]) (rest := [vI t]) rfl rfl rfl (s_243 (d := d) hS (by omega) (by omega)) ?_
      refine g_pure 4 (i' := 26) (lv' := [some (vR 800), some (vI (nI k)), some (vI t), some (vI (nI j))]) (st' := [vI 0, vI (nI j), vR 800, vI (S (213 + 7 * j + 2)), vI t]) rfl ?_
      refine gW_eq (st' := [vI (nI 0), vI (nI j), vR 800, vI (S (213 + 7 * j + 2)), vI t]) rfl (by rw [(show (0 : Int32) = nI 0 from rfl)]) rfl ?_
      refine g_cV1 rfl (args := [vR 800, vI (nI j), vI (nI 0)]) (rest := [vI (S (213 + 7 * j + 2)), vI t]) rfl rfl rfl (s_243 (d := d) hS (by omega) (by omega)) ?_
      refine gW_eq (st' := [vI (S (213 + 7 * j)), vI (S (213 + 7 * j + 2)), vI t]) rfl (by rw [show S (213 + 7 * j + 0) = S (213 + 7 * j) from congrArg S (by omega)]) rfl ?_
      refine g_pure 1 (i' := 28) (lv' := [some (vR 800), some (vI (nI k)), some (vI t), some (vI (nI j))]) (st' := [vI (nI k), vI (S (213 + 7 * j)), vI (S (213 + 7 * j + 2)), vI t]) rfl ?_
      have t7 := (hI.deb (k := j) (by omega)).1
      have t7b := t7.2
      refine g_if2 (i' := 34) (P := ¬ sn S (213 + 7 * j) = k) rfl rfl (g_neN (show S (213 + 7 * j) = nI (sn S (213 + 7 * j)) from t7.1) (show nI k = nI k from (rfl : nI k = nI k)) (by omega) (by omega)) (fun h8 => ?_) (fun h8 => ?_)
      · have t9 := (hI.deb (k := j) (by omega)).2.2.1
        have t9b := t9.2
        refine g_pure 1 (i' := 35) (lv' := [some (vR 800), some (vI (nI k)), some (vI t), some (vI (nI j))]) (st' := [vI 0, vI (S (213 + 7 * j + 2)), vI t]) rfl ?_
        refine gW_eq (lv' := [some (vR 800), some (vI (nI k)), some (vI t), some (vI (nI j))]) (st' := [vI 0, vI (nI (sn S (213 + 7 * j + 2))), vI t]) rfl (by rw [(show S (213 + 7 * j + 2) = nI (sn S (213 + 7 * j + 2)) from t9.1)]) rfl ?_
        refine g_pure 5 (i' := 4) (lv' := [some (vR 800), some (vI (nI k)), some (vI (t + (nI (sn S (213 + 7 * j + 2)) - 0))), some (vI (nI j + 1))]) (st' := []) rfl ?_
        refine gW_eq (lv' := [some (vR 800), some (vI (nI k)), some (vI (t + (nI (sn S (213 + 7 * j + 2)) - 0))), some (vI (nI (j + 1)))]) (st' := []) (by rw [(show (nI j + 1) = nI (j + 1) from ((g_add (rfl : nI j = nI j) (show (1 : Int32) = nI 1 from rfl))).trans (congrArg nI (by omega)))]) rfl rfl ?_
        exact o4 h1 h3 h8
      · have h8 := Classical.not_not.mp h8
        refine g_pure 3 (i' := 32) (lv' := [some (vR 800), some (vI (nI k)), some (vI t), some (vI (nI j))]) (st' := [vI 2, vI (nI j), vR 800, vI (S (213 + 7 * j + 2)), vI t]) rfl ?_
        refine gW_eq (st' := [vI (nI 2), vI (nI j), vR 800, vI (S (213 + 7 * j + 2)), vI t]) rfl (by rw [(show (2 : Int32) = nI 2 from rfl)]) rfl ?_
        refine g_cV1 rfl (args := [vR 800, vI (nI j), vI (nI 2)]) (rest := [vI (S (213 + 7 * j + 2)), vI t]) rfl rfl rfl (s_243 (d := d) hS (by omega) (by omega)) ?_
        refine g_pure 6 (i' := 4) (lv' := [some (vR 800), some (vI (nI k)), some (vI (t + (S (213 + 7 * j + 2) - S (213 + 7 * j + 2)))), some (vI (nI j + 1))]) (st' := []) rfl ?_
        refine gW_eq (lv' := [some (vR 800), some (vI (nI k)), some (vI (t + (S (213 + 7 * j + 2) - S (213 + 7 * j + 2)))), some (vI (nI (j + 1)))]) (st' := []) (by rw [(show (nI j + 1) = nI (j + 1) from ((g_add (rfl : nI j = nI j) (show (1 : Int32) = nI 1 from rfl))).trans (congrArg nI (by omega)))]) rfl rfl ?_
        exact o5 h1 h3 h8

theorem s_63 {X : Nat × (Nat → Int32)} {d : Nat} {p : Nat → Nat} {sg : Mg} {B : Nat} {S : Nat → Int32} (hI : Inv B S) (hL : cwL 250 sg S) (hD : cwD 200 sg S) {k : Nat} (hk : k ≤ 7) : gF X (d + 1) 63 [vR 21, vR 202, vI (nI k)] p sg (fun r => r = gRv p sg (bal S k)) := by
  have b4 := hI.b4
  refine g_in (cd := k_63) (nL := 6) (rc := 8) rfl (g_A (a := 21) (kd := 0) (n := 7) rfl (by decide)) (g_c1 rfl) (b_63_0 hI hL hD hk ?_)
  have key := g_upI (P := fun j => ∀ z5, gW X d k_63 4 [some (vR 21), some (vR 202), some (vI (nI k)), some (vI (sumI (balF S k) j)), some (vI (nI j)), z5] [] p sg (fun r => r = gRv p sg (bal S k))) (I := fun _ => True) (n := sn S 4) (a := 0) (by omega) trivial ?_ ?_
  · exact key none
  · intro j _ hj _ ih z5
    have ih := ih trivial
    refine b_63_4 hI hL hD hk (by omega) (fun h => by omega) (fun _ h1 h2 => ?_) (fun _ h1 h2 => ?_) (fun _ h1 => ?_)
    · have e : sumI (balF S k) (j + 1) = sumI (balF S k) j := by show _ + balF S k j = _; unfold balF; rw [if_neg h1, if_neg h2, Int32.add_zero]
      rw [e] at ih; exact ih _
    · have e : sumI (balF S k) (j + 1) = sumI (balF S k) j - S (213 + 7 * j + 2) := by show _ + balF S k j = _; unfold balF; rw [if_neg h1, if_pos h2, Int32.sub_eq_add_neg]
      rw [e] at ih; exact ih _
    · have e : sumI (balF S k) (j + 1) = sumI (balF S k) j + S (213 + 7 * j + 2) := by show _ + balF S k j = _; unfold balF; rw [if_pos h1]
      rw [e] at ih; exact ih _
  · intro _ z5
    exact b_63_4 hI hL hD hk (by omega) (fun _ => rfl) (fun h => by omega) (fun h => by omega) (fun h => by omega)
theorem s_301 {X : Nat × (Nat → Int32)} {d : Nat} {p : Nat → Nat} {sg : Mg} {B : Nat} {S : Nat → Int32} (hI : Inv B S) (hS : sg 801 = S) {k : Nat} (hk : k ≤ 7) : gF X (d + 2) 301 [vR 800, vI (nI k)] p sg (fun r => r = gRv p sg (bal S k)) := by
  have b4 := hI.b4
  refine g_in (cd := k_301) (nL := 4) (rc := 13) rfl (g_A (a := 800) (kd := 0) (n := 12) rfl (by decide)) (g_c1 rfl) (b_301_0 hI hS hk ?_)
  have key := g_upI (P := fun j => gW X (d + 1) k_301 4 [some (vR 800), some (vI (nI k)), some (vI (sumI (balF S k) j)), some (vI (nI j))] [] p sg (fun r => r = gRv p sg (bal S k))) (I := fun _ => True) (n := sn S 4) (a := 0) (by omega) trivial ?_ ?_
  · exact key
  · intro j _ hj _ ih
    have ih := ih trivial
    have hd := hI.deb hj
    have ow := hd.2.2.1.1
    refine b_301_4 hI hS hk (by omega) (fun h => by omega) (fun _ h1 h2 => ?_) (fun _ h1 h2 => ?_) (fun _ h1 h2 => ?_) (fun _ h1 h2 => ?_)
    · have e : sumI (balF S k) (j + 1) = sumI (balF S k) j + (0 - 0) := by show _ + balF S k j = _; unfold balF; rw [if_neg h1, if_neg h2]; rfl
      rw [e] at ih; exact ih
    · have e : sumI (balF S k) (j + 1) = sumI (balF S k) j + (0 - nI (sn S (213 + 7 * j + 2))) := by show _ + balF S k j = _; unfold balF; rw [if_neg h1, if_pos h2, ← ow, Int32.zero_sub]
      rw [e] at ih; exact ih
    · have e : sumI (balF S k) (j + 1) = sumI (balF S k) j + (nI (sn S (213 + 7 * j + 2)) - 0) := by show _ + balF S k j = _; unfold balF; rw [if_pos h1, ← ow, Int32.sub_zero]
      rw [e] at ih; exact ih
    · exact absurd (h2.trans h1.symm) hd.2.2.2.2.2.2.2.1
  · intro _
    exact b_301_4 hI hS hk (by omega) (fun _ => rfl) (fun h => by omega) (fun h => by omega) (fun h => by omega) (fun h => by omega)

theorem b_64_0 {X : Nat × (Nat → Int32)} {d : Nat} {p : Nat → Nat} {sg : Mg} {Q : am_R → Prop} {s : Nat} {n : Nat} (u_s : s ≤ 255) (u_n : n ≤ 8)
    (o1 : gW X (d + 1) k_64 4 [some (vR 21), some (vI (nI s)), some (vI (nI n)), some (vI 0), some (vI 0)] [] p sg Q) :
    gW X (d + 1) k_64 0 [some (vR 21), some (vI (nI s)), some (vI (nI n)), none, none] [] p sg Q := by
  refine g_pure 4 (i' := 4) (lv' := [some (vR 21), some (vI (nI s)), some (vI (nI n)), some (vI 0), some (vI 0)]) (st' := []) rfl ?_
  exact o1

theorem b_64_4 {X : Nat × (Nat → Int32)} {d : Nat} {p : Nat → Nat} {sg : Mg} {Q : am_R → Prop} {s : Nat} {n : Nat} {m : Nat} {j : Nat} (u_s : s ≤ 255) (u_n : n ≤ 8) (u_m : m ≤ 255) (u_j : j ≤ 8)
    (o1 : (n ≤ j) → (¬ sg 22 s = 0) → Q (gRv p sg (nI m)))
    (o2 : (n ≤ j) → (sg 22 s = 0) → Q (gRv p sg (nI (m + 1))))
    (o3 : (¬ (n ≤ j)) → (((nI s >>> (nI j &&& 31)) &&& 1) = 0) → gW X (d + 1) k_64 4 [some (vR 21), some (vI (nI s)), some (vI (nI n)), some (vI (nI m)), some (vI (nI (j + 1)))] [] p sg Q)
    (o4 : (¬ (n ≤ j)) → (¬ (((nI s >>> (nI j &&& 31)) &&& 1) = 0)) → ∃ k, (nI s ^^^ (1 <<< (nI j &&& 31))) = nI k ∧ k < 256)
    (o5 : (¬ (n ≤ j)) → (¬ (((nI s >>> (nI j &&& 31)) &&& 1) = 0)) → ∀ k4 : Nat, (nI s ^^^ (1 <<< (nI j &&& 31))) = nI k4 → k4 < 256 → gW X (d + 1) k_64 4 [some (vR 21), some (vI (nI s)), some (vI (nI n)), some (vI (if (nI m) < (sg 23 k4) then (sg 23 k4) else (nI m))), some (vI (nI (j + 1)))] [] p sg Q) :
    gW X (d + 1) k_64 4 [some (vR 21), some (vI (nI s)), some (vI (nI n)), some (vI (nI m)), some (vI (nI j))] [] p sg Q := by
  refine g_pure 2 (i' := 6) (lv' := [some (vR 21), some (vI (nI s)), some (vI (nI n)), some (vI (nI m)), some (vI (nI j))]) (st' := [vI (nI n), vI (nI j)]) rfl ?_
  refine g_if2 (i' := 26) (P := n ≤ j) rfl rfl (g_geN (show nI j = nI j from (rfl : nI j = nI j)) (show nI n = nI n from (rfl : nI n = nI n)) (by omega) (by omega)) (fun h1 => ?_) (fun h1 => ?_)
  · refine g_pure 3 (i' := 29) (lv' := [some (vR 21), some (vI (nI s)), some (vI (nI n)), some (vI (nI m)), some (vI (nI j))]) (st' := [vI (nI s), vR 22]) rfl ?_
    refine g_ald rfl (g_A (a := 22) (kd := 1) (n := 256) rfl (by decide)) (by decide) (show nI s = nI s from (rfl : nI s = nI s)) (by omega) (show _ = sg 22 s from rfl) ?_
    refine g_if1 (i' := 35) (P := ¬ sg 22 s = 0) rfl rfl Iff.rfl (fun h2 => ?_) (fun h2 => ?_)
    · refine g_pure 1 (i' := 36) (lv' := [some (vR 21), some (vI (nI s)), some (vI (nI n)), some (vI (nI m)), some (vI (nI j))]) (st' := [vI (nI m)]) rfl ?_
      refine g_iret rfl ?_
      exact o1 h1 h2
    · have h2 := Classical.not_not.mp h2
      refine g_pure 4 (i' := 36) (lv' := [some (vR 21), some (vI (nI s)), some (vI (nI n)), some (vI (nI m)), some (vI (nI j))]) (st' := [vI (nI m + 1)]) rfl ?_
      refine gW_eq (lv' := [some (vR 21), some (vI (nI s)), some (vI (nI n)), some (vI (nI m)), some (vI (nI j))]) (st' := [vI (nI (m + 1))]) rfl (by rw [(show (nI m + 1) = nI (m + 1) from ((g_add (rfl : nI m = nI m) (show (1 : Int32) = nI 1 from rfl))).trans (congrArg nI (by omega)))]) rfl ?_
      refine g_iret rfl ?_
      exact o2 h1 h2
  · refine g_pure 5 (i' := 12) (lv' := [some (vR 21), some (vI (nI s)), some (vI (nI n)), some (vI (nI m)), some (vI (nI j))]) (st' := [vI ((nI s >>> (nI j &&& 31)) &&& 1)]) rfl ?_
    refine g_if1 (i' := 24) (P := ((nI s >>> (nI j &&& 31)) &&& 1) = 0) rfl rfl Iff.rfl (fun h3 => ?_) (fun h3 => ?_)
    · refine g_pure 2 (i' := 4) (lv' := [some (vR 21), some (vI (nI s)), some (vI (nI n)), some (vI (nI m)), some (vI (nI j + 1))]) (st' := []) rfl ?_
      refine gW_eq (lv' := [some (vR 21), some (vI (nI s)), some (vI (nI n)), some (vI (nI m)), some (vI (nI (j + 1)))]) (st' := []) (by rw [(show (nI j + 1) = nI (j + 1) from ((g_add (rfl : nI j = nI j) (show (1 : Int32) = nI 1 from rfl))).trans (congrArg nI (by omega)))]) rfl rfl ?_
      exact o3 h1 h3
    · refine g_pure 8 (i' := 21) (lv' := [some (vR 21), some (vI (nI s)), some (vI (nI n)), some (vI (nI m)), some (vI (nI j))]) (st' := [vI (nI s ^^^ (1 <<< (nI j &&& 31))), vR 23, vI (nI m)]) rfl ?_
      obtain ⟨k4, ek4, lk4⟩ := o4 h1 h3
      refine g_ald rfl (g_A (a := 23) (kd := 1) (n := 256) rfl (by decide)) (by decide) (show (nI s ^^^ (1 <<< (nI j &&& 31))) = nI k4 from ek4) (by omega) (show _ = sg 23 k4 from rfl) ?_
      refine g_cS1 rfl (args := [vI (nI m), vI (sg 23 k4)]) (rest := []) rfl rfl rfl (s_316 (d := d) ) ?_
      refine g_pure 3 (i' := 4) (lv' := [some (vR 21), some (vI (nI s)), some (vI (nI n)), some (vI (if (nI m) < (sg 23 k4) then (sg 23 k4) else (nI m))), some (vI (nI j + 1))]) (st' := []) rfl ?_
      refine gW_eq (lv' := [some (vR 21), some (vI (nI s)), some (vI (nI n)), some (vI (if (nI m) < (sg 23 k4) then (sg 23 k4) else (nI m))), some (vI (nI (j + 1)))]) (st' := []) (by rw [(show (nI j + 1) = nI (j + 1) from ((g_add (rfl : nI j = nI j) (show (1 : Int32) = nI 1 from rfl))).trans (congrArg nI (by omega)))]) rfl rfl ?_
      exact o5 h1 h3 k4 ek4 lk4

theorem s_64 {X : Nat × (Nat → Int32)} {d : Nat} {p : Nat → Nat} {sg : Mg} {s n : Nat} {E : Nat → Nat} (hs : s ≤ 255) (h0 : 0 < s) (hn : n ≤ 8) (hE : ∀ q, q < s → E q ≤ q) (hM : ∀ q, q < s → sg 23 q = nI (E q)) : gF X (d + 2) 64 [vR 21, vI (nI s), vI (nI n)] p sg (fun r => r = gRv p sg (nI (if sg 22 s = 0 then mxB E s n + 1 else mxB E s n))) := by
  have hm : ∀ j, j ≤ n → mxB E s j < s := fun j hj => mxB_lt (by omega) h0 hE j (by omega)
  refine g_in (cd := k_64) (nL := 5) (rc := 8) rfl (g_A (a := 21) (kd := 0) (n := 7) rfl (by decide)) (g_c1 rfl) (b_64_0 hs hn ?_)
  have key := g_upI (P := fun j => gW X (d + 1) k_64 4 [some (vR 21), some (vI (nI s)), some (vI (nI n)), some (vI (nI (mxB E s j))), some (vI (nI j))] [] p sg (fun r => r = gRv p sg (nI (if sg 22 s = 0 then mxB E s n + 1 else mxB E s n)))) (I := fun _ => True) (n := n) (a := 0) (by omega) trivial ?_ ?_
  · exact key
  · intro j _ hj _ ih
    have ih := ih trivial
    have h9 := hm j (by omega)
    have eb : ¬ ((nI s >>> (nI j &&& 31)) &&& 1) = 0 → s.testBit j = true := fun h => by
      rw [nI_bit0 (by omega) (by omega)] at h
      simpa using h
    have ex : (nI s ^^^ (1 <<< (nI j &&& 31))) = nI (s ^^^ 2 ^ j) := by rw [nI_shl1 (by omega), nI_xor]
    refine b_64_4 hs hn (by omega) (by omega) (fun h => by omega) (fun h => by omega) (fun _ h => ?_) (fun _ h => ⟨_, ex, by have := x_lt s (by omega) j (by omega) (eb h); omega⟩) (fun _ h k4 e4 l4 => ?_)
    · rw [nI_bit0 (by omega) (by omega)] at h
      have e : mxB E s (j + 1) = mxB E s j := by show (if s.testBit j = true then _ else _) = _; rw [h]; rfl
      rw [e] at ih; exact ih
    · have hb := eb h
      have hx := x_lt s (by omega) j (by omega) hb
      have e4 : k4 = s ^^^ 2 ^ j := by rw [ex, nI_eq (by omega) (by omega)] at e4; exact e4.symm
      subst e4
      have e : mxB E s (j + 1) = max (mxB E s j) (E (s ^^^ 2 ^ j)) := by show (if s.testBit j = true then _ else _) = _; rw [hb]; rfl
      rw [nI_maxE (hM _ hx) (by omega) (by have := hE _ hx; omega), ← e]
      exact ih
  · intro _
    have h9 := hm n (Nat.le_refl _)
    exact b_64_4 hs hn (by omega) (by omega) (fun _ h => by rw [if_neg h]) (fun _ h => by rw [if_pos h]) (fun h => by omega) (fun h => by omega) (fun h => by omega)
