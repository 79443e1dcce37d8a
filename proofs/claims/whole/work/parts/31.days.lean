/-! DAYS AND PAGES, on both sides (made by wip/whole/gen31.py) -/
theorem s_314n {X : Nat × (Nat → Int32)} {d : Nat} {p : Nat → Nat} {sg : Mg} {m : Nat} {n : Nat} (u_m : m ≤ 100000000) (u_n : n ≤ 1000) (q1 : 1 ≤ n) : gF X (d + 1) 314 [vI (nI m), vI (nI n)] p sg (fun r => r = gRv p sg (nI (m % n))) := by
  refine g_in (cd := k_314) (nL := 3) (rc := 0) rfl trivial (g_c1 rfl) ?_
  show gW X (d) k_314 0 [some (vI (nI m)), some (vI (nI n)), none] [] p sg _
  refine g_pure 2 (i' := 2) (lv' := [some (vI (nI m)), some (vI (nI n)), none]) (st' := [vI (nI n), vI (nI m)]) rfl ?_
  refine g_rem rfl (g_nz (rfl : nI n = nI n) (by omega) (by omega)) ?_
  have t1 : (m % n) < n := Nat.mod_lt _ (by omega)
  refine g_pure 4 (i' := 7) (lv' := [some (vI (nI m)), some (vI (nI n)), some (vI (nI m - nI m / nI n * nI n))]) (st' := [vI (nI m ^^^ nI n)]) rfl ?_
  refine gW_eq (lv' := [some (vI (nI m)), some (vI (nI n)), some (vI (nI (m % n)))]) (st' := [vI (nI m ^^^ nI n)]) (by rw [(show (nI m - nI m / nI n * nI n) = nI (m % n) from (g_modN (rfl : nI m = nI m) (rfl : nI n = nI n) (by omega) (by omega) (by omega)))]) rfl rfl ?_
  refine g_if1 (i' := 14) (P := 0 ≤ (nI m ^^^ nI n)) rfl rfl Iff.rfl (fun _ => ?_) (fun h2 => absurd (g_xor_nn (by omega) (by omega)) h2)
  refine g_pure 1 (i' := 15) (lv' := [some (vI (nI m)), some (vI (nI n)), some (vI (nI (m % n)))]) (st' := [vI (nI (m % n))]) rfl ?_
  refine g_iret rfl ?_
  exact rfl

theorem s_314r {X : Nat × (Nat → Int32)} {d : Nat} {p : Nat → Nat} {sg : Mg} {x : Int32} {y : Int32} (o1 : ¬ y = 0) : gF X (d + 1) 314 [vI x, vI y] p sg (fun r => r = gRv p sg (if 0 ≤ (x ^^^ y) then (x - x / y * y) else (if (x - x / y * y) = 0 then (x - x / y * y) else ((x - x / y * y) + y)))) := by
  refine g_in (cd := k_314) (nL := 3) (rc := 0) rfl trivial (g_c1 rfl) ?_
  show gW X (d) k_314 0 [some (vI x), some (vI y), none] [] p sg _
  refine g_pure 2 (i' := 2) (lv' := [some (vI x), some (vI y), none]) (st' := [vI y, vI x]) rfl ?_
  refine g_rem rfl (o1) ?_
  refine g_pure 4 (i' := 7) (lv' := [some (vI x), some (vI y), some (vI (x - x / y * y))]) (st' := [vI (x ^^^ y)]) rfl ?_
  refine g_if1 (i' := 14) (P := 0 ≤ (x ^^^ y)) rfl rfl Iff.rfl (fun h1 => ?_) (fun h1 => ?_)
  · refine g_pure 1 (i' := 15) (lv' := [some (vI x), some (vI y), some (vI (x - x / y * y))]) (st' := [vI (x - x / y * y)]) rfl ?_
    refine g_iret rfl ?_
    exact (congrArg (gRv p sg) (by rw [if_pos h1]))
  · refine g_pure 1 (i' := 9) (lv' := [some (vI x), some (vI y), some (vI (x - x / y * y))]) (st' := [vI (x - x / y * y)]) rfl ?_
    refine g_if1 (i' := 14) (P := (x - x / y * y) = 0) rfl rfl Iff.rfl (fun h2 => ?_) (fun h2 => ?_)
    · refine g_pure 1 (i' := 15) (lv' := [some (vI x), some (vI y), some (vI (x - x / y * y))]) (st' := [vI (x - x / y * y)]) rfl ?_
      refine g_iret rfl ?_
      exact (congrArg (gRv p sg) (by rw [if_neg h1, if_pos h2]))
    · refine g_pure 3 (i' := 13) (lv' := [some (vI x), some (vI y), some (vI (x - x / y * y))]) (st' := [vI ((x - x / y * y) + y)]) rfl ?_
      refine g_iret rfl ?_
      exact (congrArg (gRv p sg) (by rw [if_neg h1, if_neg h2]))

theorem s_314m {X : Nat × (Nat → Int32)} {d : Nat} {p : Nat → Nat} {sg : Mg} {a b n : Nat} (ha : a ≤ 100000000) (hb : b ≤ n) (hn : 1 ≤ n) (hn2 : n ≤ 1000) : gF X (d + 1) 314 [vI (nI a - nI b), vI (nI n)] p sg (fun r => r = gRv p sg (nI ((a + n - b) % n))) := by
  rcases Nat.lt_or_ge a b with h | h
  · refine gF_mono (s_314r (g_nz (n := n) rfl (by omega) (by omega))) (fun r hr => hr.trans (congrArg (gRv p sg) ?_))
    have e : nI a - nI b = -nI (b - a) := g_sub_neg (by omega)
    rw [e, g_nrem (by omega) (by omega) (by omega), if_neg (g_xor_neg (g_neg_lt (by omega) (by omega)) (by omega))]
    have h2 : (b - a) % n < n := Nat.mod_lt _ (by omega)
    by_cases hz : (b - a) % n = 0
    · rw [if_pos ((g_neg_eq0 (by omega)).mpr hz), hz]
      have h3 : b - a = n := by
        rcases Nat.lt_or_ge (b - a) n with h4 | h4
        · rw [Nat.mod_eq_of_lt h4] at hz; omega
        · omega
      have h5 : a + n - b = 0 := by omega
      rw [h5, Nat.zero_mod]
      decide
    · rw [if_neg (fun h9 => hz ((g_neg_eq0 (by omega)).mp h9)), g_negadd (by omega)]
      congr 1
      have h4 : b - a < n := by
        rcases Nat.lt_or_ge (b - a) n with h4 | h4
        · exact h4
        · exfalso
          apply hz
          have : b - a = n := by omega
          rw [this, Nat.mod_self]
      rw [Nat.mod_eq_of_lt h4, Nat.mod_eq_of_lt (show a + n - b < n by omega)]
      omega
  · rw [g_sub rfl rfl h]
    refine gF_mono (s_314n (d := d) (m := a - b) (n := n) (by omega) hn2 hn) (fun r hr => hr.trans (congrArg (gRv p sg) (congrArg nI ?_)))
    rw [show a + n - b = (a - b) + n by omega, Nat.add_mod_right]

theorem s_315n {X : Nat × (Nat → Int32)} {d : Nat} {p : Nat → Nat} {sg : Mg} {m : Nat} {n : Nat} (u_m : m ≤ 100000000) (u_n : n ≤ 1000) (q1 : 1 ≤ n) : gF X (d + 1) 315 [vI (nI m), vI (nI n)] p sg (fun r => r = gRv p sg (nI (m / n))) := by
  refine g_in (cd := k_315) (nL := 3) (rc := 0) rfl trivial (g_c1 rfl) ?_
  show gW X (d) k_315 0 [some (vI (nI m)), some (vI (nI n)), none] [] p sg _
  refine g_pure 2 (i' := 2) (lv' := [some (vI (nI m)), some (vI (nI n)), none]) (st' := [vI (nI n), vI (nI m)]) rfl ?_
  refine g_div rfl (g_nz (rfl : nI n = nI n) (by omega) (by omega)) ?_
  have t1 : (m / n) ≤ m := Nat.div_le_self _ _
  refine g_pure 4 (i' := 7) (lv' := [some (vI (nI m)), some (vI (nI n)), some (vI (nI m / nI n))]) (st' := [vI (nI m ^^^ nI n)]) rfl ?_
  refine gW_eq (lv' := [some (vI (nI m)), some (vI (nI n)), some (vI (nI (m / n)))]) (st' := [vI (nI m ^^^ nI n)]) (by rw [(show (nI m / nI n) = nI (m / n) from (g_divN (rfl : nI m = nI m) (rfl : nI n = nI n) (by omega) (by omega) (by omega)))]) rfl rfl ?_
  refine g_if1 (i' := 17) (P := 0 ≤ (nI m ^^^ nI n)) rfl rfl Iff.rfl (fun _ => ?_) (fun h2 => absurd (g_xor_nn (by omega) (by omega)) h2)
  refine g_pure 1 (i' := 18) (lv' := [some (vI (nI m)), some (vI (nI n)), some (vI (nI (m / n)))]) (st' := [vI (nI (m / n))]) rfl ?_
  refine g_iret rfl ?_
  exact rfl

theorem s_37n {X : Nat × (Nat → Int32)} {d : Nat} {p : Nat → Nat} {sg : Mg} {B : Nat} {S : Nat → Int32} (hI : Inv B S) (hL : cwL 250 sg S) (hD : cwD 200 sg S) {t : Nat} (u_t : t ≤ 100000000) : gF X (d + 2) 37 [vR 202, vI (nI t)] p sg (fun r => r = gRv p sg (nI (t % (sn S 9)))) := by
  have b0 := hI.b0; have b1 := hI.b1; have b2 := hI.b2; have b3 := hI.b3; have b4 := hI.b4; have b5 := hI.b5; have b6 := hI.b6; have b7 := hI.b7; have b8 := hI.b8; have b9 := hI.b9; have b14 := hI.b14
  refine g_in (cd := k_37) (nL := 2) (rc := 4) rfl (g_A (a := 202) (kd := 0) (n := 3) rfl (by decide)) (g_c1 rfl) ?_
  show gW X (d + 1) k_37 0 [some (vR 202), some (vI (nI t))] [] p sg _
  refine g_pure 1 (i' := 1) (lv' := [some (vR 202), some (vI (nI t))]) (st' := [vR 202]) rfl ?_
  refine g_getI rfl (g_A (a := 202) (kd := 0) (n := 3) rfl (by decide)) (show _ = S 9 from hD.f5) ?_
  refine g_if1 (i' := 8) (P := sn S 9 ≤ 0) rfl rfl (g_leN (show S 9 = nI (sn S 9) from (hI.c9)) (show 0 = nI 0 from (show (0 : Int32) = nI 0 from rfl)) (by omega) (by omega)) (fun h1 => absurd h1 (by omega)) (fun _ => ?_)
  refine g_pure 2 (i' := 5) (lv' := [some (vR 202), some (vI (nI t))]) (st' := [vR 202, vI (nI t)]) rfl ?_
  refine g_getI rfl (g_A (a := 202) (kd := 0) (n := 3) rfl (by decide)) (show _ = S 9 from hD.f5) ?_
  refine gW_eq (st' := [vI (nI (sn S 9)), vI (nI t)]) rfl (by rw [(show S 9 = nI (sn S 9) from (hI.c9))]) rfl ?_
  refine g_cS1 rfl (args := [vI (nI t), vI (nI (sn S 9))]) (rest := []) rfl rfl rfl (s_314n (d := d) (by omega) (by omega) (by omega)) ?_
  have t2 := Nat.mod_lt (t) (y := (sn S 9)) (by omega)
  refine g_pure 1 (i' := 9) (lv' := [some (vR 202), some (vI (nI t))]) (st' := [vI (nI (t % (sn S 9)))]) rfl ?_
  refine g_iret rfl ?_
  exact rfl

theorem s_38 {X : Nat × (Nat → Int32)} {d : Nat} {p : Nat → Nat} {sg : Mg} {B : Nat} {S : Nat → Int32} (hI : Inv B S) (hL : cwL 250 sg S) (hD : cwD 200 sg S) {t : Nat} (u_t : t ≤ 100000000) : gF X (d + 2) 38 [vR 202, vI (nI t)] p sg (fun r => r = gRv p sg (nI (t / (sn S 9)))) := by
  have b0 := hI.b0; have b1 := hI.b1; have b2 := hI.b2; have b3 := hI.b3; have b4 := hI.b4; have b5 := hI.b5; have b6 := hI.b6; have b7 := hI.b7; have b8 := hI.b8; have b9 := hI.b9; have b14 := hI.b14
  refine g_in (cd := k_38) (nL := 2) (rc := 4) rfl (g_A (a := 202) (kd := 0) (n := 3) rfl (by decide)) (g_c1 rfl) ?_
  show gW X (d + 1) k_38 0 [some (vR 202), some (vI (nI t))] [] p sg _
  refine g_pure 1 (i' := 1) (lv' := [some (vR 202), some (vI (nI t))]) (st' := [vR 202]) rfl ?_
  refine g_getI rfl (g_A (a := 202) (kd := 0) (n := 3) rfl (by decide)) (show _ = S 9 from hD.f5) ?_
  refine g_if1 (i' := 8) (P := sn S 9 ≤ 0) rfl rfl (g_leN (show S 9 = nI (sn S 9) from (hI.c9)) (show 0 = nI 0 from (show (0 : Int32) = nI 0 from rfl)) (by omega) (by omega)) (fun h1 => absurd h1 (by omega)) (fun _ => ?_)
  refine g_pure 2 (i' := 5) (lv' := [some (vR 202), some (vI (nI t))]) (st' := [vR 202, vI (nI t)]) rfl ?_
  refine g_getI rfl (g_A (a := 202) (kd := 0) (n := 3) rfl (by decide)) (show _ = S 9 from hD.f5) ?_
  refine gW_eq (st' := [vI (nI (sn S 9)), vI (nI t)]) rfl (by rw [(show S 9 = nI (sn S 9) from (hI.c9))]) rfl ?_
  refine g_cS1 rfl (args := [vI (nI t), vI (nI (sn S 9))]) (rest := []) rfl rfl rfl (s_315n (d := d) (by omega) (by omega) (by omega)) ?_
  refine g_pure 1 (i' := 9) (lv' := [some (vR 202), some (vI (nI t))]) (st' := [vI (nI (t / (sn S 9)))]) rfl ?_
  refine g_iret rfl ?_
  exact rfl

theorem s_37d {X : Nat × (Nat → Int32)} {d : Nat} {p : Nat → Nat} {sg : Mg} {B : Nat} {S : Nat → Int32} (hI : Inv B S) (hL : cwL 250 sg S) (hD : cwD 200 sg S) {a : Nat} {b : Nat} (q1 : a ≤ 100000000) (q2 : b ≤ sn S 9) : gF X (d + 2) 37 [vR 202, vI (nI a - nI b)] p sg (fun r => r = gRv p sg (nI ((a + (sn S 9) - b) % (sn S 9)))) := by
  have b0 := hI.b0; have b1 := hI.b1; have b2 := hI.b2; have b3 := hI.b3; have b4 := hI.b4; have b5 := hI.b5; have b6 := hI.b6; have b7 := hI.b7; have b8 := hI.b8; have b9 := hI.b9; have b14 := hI.b14
  refine g_in (cd := k_37) (nL := 2) (rc := 4) rfl (g_A (a := 202) (kd := 0) (n := 3) rfl (by decide)) (g_c1 rfl) ?_
  show gW X (d + 1) k_37 0 [some (vR 202), some (vI (nI a - nI b))] [] p sg _
  refine g_pure 1 (i' := 1) (lv' := [some (vR 202), some (vI (nI a - nI b))]) (st' := [vR 202]) rfl ?_
  refine g_getI rfl (g_A (a := 202) (kd := 0) (n := 3) rfl (by decide)) (show _ = S 9 from hD.f5) ?_
  refine g_if1 (i' := 8) (P := sn S 9 ≤ 0) rfl rfl (g_leN (show S 9 = nI (sn S 9) from (hI.c9)) (show 0 = nI 0 from (show (0 : Int32) = nI 0 from rfl)) (by omega) (by omega)) (fun h1 => absurd h1 (by omega)) (fun _ => ?_)
  refine g_pure 2 (i' := 5) (lv' := [some (vR 202), some (vI (nI a - nI b))]) (st' := [vR 202, vI (nI a - nI b)]) rfl ?_
  refine g_getI rfl (g_A (a := 202) (kd := 0) (n := 3) rfl (by decide)) (show _ = S 9 from hD.f5) ?_
  refine gW_eq (st' := [vI (nI (sn S 9)), vI (nI a - nI b)]) rfl (by rw [(show S 9 = nI (sn S 9) from (hI.c9))]) rfl ?_
  refine g_cS1 rfl (args := [vI (nI a - nI b), vI (nI (sn S 9))]) (rest := []) rfl rfl rfl (s_314m (d := d) (by omega) (by omega) (by omega) (by omega)) ?_
  have t2 := Nat.mod_lt (a + (sn S 9) - b) (y := (sn S 9)) (by omega)
  refine g_pure 1 (i' := 9) (lv' := [some (vR 202), some (vI (nI a - nI b))]) (st' := [vI (nI ((a + (sn S 9) - b) % (sn S 9)))]) rfl ?_
  refine g_iret rfl ?_
  exact rfl

theorem s_110 {X : Nat × (Nat → Int32)} {d : Nat} {p : Nat → Nat} {sg : Mg} {B : Nat} {S : Nat → Int32} (hI : Inv B S) (hL : cwL 250 sg S) (hD : cwD 200 sg S) {v : Nat} {t : Nat} (u_v : v ≤ 5) (u_t : t ≤ 100000000) : gF X (d + 3) 110 [vR 200, vI (nI v), vI (nI t)] p sg (fun r => r = gRv p sg (S (17 + 16 * v + (t % sn S 9)))) := by
  have b0 := hI.b0; have b1 := hI.b1; have b2 := hI.b2; have b3 := hI.b3; have b4 := hI.b4; have b5 := hI.b5; have b6 := hI.b6; have b7 := hI.b7; have b8 := hI.b8; have b9 := hI.b9; have b14 := hI.b14
  refine g_in (cd := k_110) (nL := 3) (rc := 11) rfl (g_A (a := 200) (kd := 0) (n := 10) rfl (by decide)) (g_c1 rfl) ?_
  show gW X (d + 2) k_110 0 [some (vR 200), some (vI (nI v)), some (vI (nI t))] [] p sg _
  refine g_pure 4 (i' := 4) (lv' := [some (vR 200), some (vI (nI v)), some (vI (nI t))]) (st' := [vI (nI v), vR 251]) rfl ?_
  refine g_aald rfl (Or.inl rfl) (g_A (a := 251) (kd := 5) (n := 6) rfl (by decide)) (by decide) (show nI v = nI v from (rfl : nI v = nI v)) (by omega) (gR_251 (by omega)) ?_
  refine g_pure 3 (i' := 8) (lv' := [some (vR 200), some (vI (nI v)), some (vI (nI t))]) (st' := [vI (nI t), vR 202, vR (262 + v)]) rfl ?_
  refine g_cV1 rfl (args := [vR 202, vI (nI t)]) (rest := [vR (262 + v)]) rfl rfl rfl (s_37n (d := d) hI hL hD (by omega)) ?_
  have t1 := Nat.mod_lt (t) (y := sn S 9) (by omega)
  refine g_ald rfl (gA_251 (by omega)) (by decide) (show nI (t % sn S 9) = nI (t % sn S 9) from (rfl : nI (t % sn S 9) = nI (t % sn S 9))) (by omega) (show _ = S (17 + 16 * v + (t % sn S 9)) from (hL.tab (by omega) (by omega))) ?_
  refine g_iret rfl ?_
  exact rfl

theorem g_down {P : Nat → Prop} : ∀ {n : Nat}, (∀ k, k < n → P (k + 1) → P k) → P n → P 0
  | 0, _, h => h
  | n + 1, h, hn => g_down (n := n) (fun k hk => h k (by omega)) (h n (by omega) hn)
/-- how many k below n -/
def cnt (P : Nat → Bool) : Nat → Nat
  | 0 => 0
  | n + 1 => cnt P n + (if P n then 1 else 0)
theorem cnt_le (P : Nat → Bool) : ∀ n, cnt P n ≤ n
  | 0 => Nat.le_refl _
  | n + 1 => by
    have := cnt_le P n
    simp only [cnt]
    split <;> omega
/-- the page with a day -/
def pgf (S : Nat → Int32) (v e : Nat) : Nat := fnd (fun q => decide (sn S (17 + 16 * v + q) = e)) (sn S 9) 0
theorem pgf_ok {B : Nat} {S : Nat → Int32} (hI : Inv B S) {v e : Nat} (hv : v < sn S 0) (he : e < sn S 9) : pgf S v e < sn S 9 ∧ sn S (17 + 16 * v + pgf S v e) = e ∧ ∀ q, q < sn S 9 → sn S (17 + 16 * v + q) = e → q = pgf S v e := by
  obtain ⟨i, hi, e1⟩ := g_pigeon (sn S 9) (fun q => sn S (17 + 16 * v + q)) (fun i hi => hI.tbb hv hi) (fun i j hi hj e => hI.tbi hv hi hj e) e he
  have e2 : pgf S v e = i := fnd_eq (Nat.zero_le _) (by omega) (decide_eq_true e1) (fun j _ hj => decide_eq_false (fun h => by have := hI.tbi hv (show j < sn S 9 by omega) hi (h.trans e1.symm); omega))
  rw [e2]
  exact ⟨hi, e1, fun q hq h => hI.tbi hv hq hi (h.trans e1.symm)⟩

theorem b_109_0 {X : Nat × (Nat → Int32)} {d : Nat} {p : Nat → Nat} {sg : Mg} {Q : am_R → Prop} {B : Nat} {S : Nat → Int32} (hI : Inv B S) (hL : cwL 250 sg S) (hD : cwD 200 sg S) {v : Nat} {e : Nat} (u_v : v ≤ 5) (u_e : e ≤ 15) (q1 : v < sn S 0)
    (o1 : gW X (d) k_109 2 [some (vR 200), some (vI (nI v)), some (vI (nI e)), some (vI 0)] [] p sg Q) :
    gW X (d) k_109 0 [some (vR 200), some (vI (nI v)), some (vI (nI e)), none] [] p sg Q := by
  have b0 := hI.b0; have b1 := hI.b1; have b2 := hI.b2; have b3 := hI.b3; have b4 := hI.b4; have b5 := hI.b5; have b6 := hI.b6; have b7 := hI.b7; have b8 := hI.b8; have b9 := hI.b9; have b14 := hI.b14
  refine g_pure 2 (i' := 2) (lv' := [some (vR 200), some (vI (nI v)), some (vI (nI e)), some (vI 0)]) (st' := []) rfl ?_
  exact o1

theorem b_109_2 {X : Nat × (Nat → Int32)} {d : Nat} {p : Nat → Nat} {sg : Mg} {Q : am_R → Prop} {B : Nat} {S : Nat → Int32} (hI : Inv B S) (hL : cwL 250 sg S) (hD : cwD 200 sg S) {v : Nat} {e : Nat} {k : Nat} (u_v : v ≤ 5) (u_e : e ≤ 15) (u_k : k ≤ 16) (q1 : v < sn S 0)
    (o1 : (sn S 9 ≤ k) → Q (gRv p sg (-1)))
    (o2 : (¬ (sn S 9 ≤ k)) → (¬ sn S (17 + 16 * v + k) = e) → gW X (d) k_109 2 [some (vR 200), some (vI (nI v)), some (vI (nI e)), some (vI (nI (k + 1)))] [] p sg Q)
    (o3 : (¬ (sn S 9 ≤ k)) → (sn S (17 + 16 * v + k) = e) → Q (gRv p sg (nI k))) :
    gW X (d) k_109 2 [some (vR 200), some (vI (nI v)), some (vI (nI e)), some (vI (nI k))] [] p sg Q := by
  have b0 := hI.b0; have b1 := hI.b1; have b2 := hI.b2; have b3 := hI.b3; have b4 := hI.b4; have b5 := hI.b5; have b6 := hI.b6; have b7 := hI.b7; have b8 := hI.b8; have b9 := hI.b9; have b14 := hI.b14
  refine g_pure 3 (i' := 5) (lv' := [some (vR 200), some (vI (nI v)), some (vI (nI e)), some (vI (nI k))]) (st' := [vR 202, vI (nI k)]) rfl ?_
  refine g_getI rfl (g_A (a := 202) (kd := 0) (n := 3) rfl (by decide)) (show _ = S 9 from hD.f5) ?_
  refine g_if2 (i' := 20) (P := sn S 9 ≤ k) rfl rfl (g_geN (show nI k = nI k from (rfl : nI k = nI k)) (show S 9 = nI (sn S 9) from (hI.c9)) (by omega) (by omega)) (fun h1 => ?_) (fun h1 => ?_)
  · refine g_pure 1 (i' := 21) (lv' := [some (vR 200), some (vI (nI v)), some (vI (nI e)), some (vI (nI k))]) (st' := [vI (-1)]) rfl ?_
    refine g_iret rfl ?_
    exact o1 h1
  · refine g_pure 4 (i' := 11) (lv' := [some (vR 200), some (vI (nI v)), some (vI (nI e)), some (vI (nI k))]) (st' := [vI (nI v), vR 251]) rfl ?_
    refine g_aald rfl (Or.inl rfl) (g_A (a := 251) (kd := 5) (n := 6) rfl (by decide)) (by decide) (show nI v = nI v from (rfl : nI v = nI v)) (by omega) (gR_251 (by omega)) ?_
    refine g_pure 1 (i' := 13) (lv' := [some (vR 200), some (vI (nI v)), some (vI (nI e)), some (vI (nI k))]) (st' := [vI (nI k), vR (262 + v)]) rfl ?_
    refine g_ald rfl (gA_251 (by omega)) (by decide) (show nI k = nI k from (rfl : nI k = nI k)) (by omega) (show _ = S (17 + 16 * v + k) from (hL.tab (by omega) (by omega))) ?_
    refine g_pure 1 (i' := 15) (lv' := [some (vR 200), some (vI (nI v)), some (vI (nI e)), some (vI (nI k))]) (st' := [vI (nI e), vI (S (17 + 16 * v + k))]) rfl ?_
    have t2 := hI.tbb (v := v) (q := k) (by omega) (by omega)
    refine g_if2 (i' := 18) (P := ¬ sn S (17 + 16 * v + k) = e) rfl rfl (g_neN (show S (17 + 16 * v + k) = nI (sn S (17 + 16 * v + k)) from (hI.tb (by omega) (by omega))) (show nI e = nI e from (rfl : nI e = nI e)) (by omega) (by omega)) (fun h3 => ?_) (fun h3 => ?_)
    · refine g_pure 2 (i' := 2) (lv' := [some (vR 200), some (vI (nI v)), some (vI (nI e)), some (vI (nI k + 1))]) (st' := []) rfl ?_
      refine gW_eq (lv' := [some (vR 200), some (vI (nI v)), some (vI (nI e)), some (vI (nI (k + 1)))]) (st' := []) (by rw [(show (nI k + 1) = nI (k + 1) from ((g_add (rfl : nI k = nI k) (show (1 : Int32) = nI 1 from rfl))).trans (congrArg nI (by omega)))]) rfl rfl ?_
      exact o2 h1 h3
    · have h3 := Classical.not_not.mp h3
      refine g_pure 1 (i' := 17) (lv' := [some (vR 200), some (vI (nI v)), some (vI (nI e)), some (vI (nI k))]) (st' := [vI (nI k)]) rfl ?_
      refine g_iret rfl ?_
      exact o3 h1 h3

theorem s_109 {X : Nat × (Nat → Int32)} {d : Nat} {p : Nat → Nat} {sg : Mg} {B : Nat} {S : Nat → Int32} (hI : Inv B S) (hL : cwL 250 sg S) (hD : cwD 200 sg S) {v e : Nat} (hv : v < sn S 0) (he : e < sn S 9) : gF X (d + 1) 109 [vR 200, vI (nI v), vI (nI e)] p sg (fun r => r = gRv p sg (nI (pgf S v e))) := by
  have b0 := hI.b0
  have b9 := hI.b9
  obtain ⟨f1, f2, f3⟩ := pgf_ok hI hv he
  refine g_in (cd := k_109) (nL := 4) (rc := 11) rfl (g_A (a := 200) (kd := 0) (n := 10) rfl (by decide)) (g_c1 rfl) (b_109_0 hI hL hD (by omega) (by omega) hv ?_)
  refine g_down (P := fun k => gW X d k_109 2 [some (vR 200), some (vI (nI v)), some (vI (nI e)), some (vI (nI k))] [] p sg _) (n := pgf S v e) (fun k hk ih => ?_) ?_
  · exact b_109_2 hI hL hD (by omega) (by omega) (by omega) hv (fun h => by omega) (fun _ _ => ih) (fun _ h => by have := f3 k (by omega) h; omega)
  · exact b_109_2 hI hL hD (by omega) (by omega) (by omega) hv (fun h => by omega) (fun _ h => absurd f2 h) (fun _ _ => rfl)

theorem s_111 {X : Nat × (Nat → Int32)} {d : Nat} {p : Nat → Nat} {sg : Mg} {B : Nat} {S : Nat → Int32} (hI : Inv B S) (hL : cwL 250 sg S) (hD : cwD 200 sg S) {v : Nat} {e : Nat} {t : Nat} (u_v : v ≤ 5) (u_e : e ≤ 15) (u_t : t ≤ 50000000) (q1 : v < sn S 0) (q2 : e < sn S 9) : gF X (d + 3) 111 [vR 200, vI (nI v), vI (nI e), vI (nI t)] p sg (fun r => r = gRv p sg (nI (t + ((pgf S v e) + sn S 9 - (t % sn S 9)) % sn S 9))) := by
  have b0 := hI.b0; have b1 := hI.b1; have b2 := hI.b2; have b3 := hI.b3; have b4 := hI.b4; have b5 := hI.b5; have b6 := hI.b6; have b7 := hI.b7; have b8 := hI.b8; have b9 := hI.b9; have b14 := hI.b14
  refine g_in (cd := k_111) (nL := 4) (rc := 11) rfl (g_A (a := 200) (kd := 0) (n := 10) rfl (by decide)) (g_c1 rfl) ?_
  show gW X (d + 2) k_111 0 [some (vR 200), some (vI (nI v)), some (vI (nI e)), some (vI (nI t))] [] p sg _
  refine g_pure 6 (i' := 6) (lv' := [some (vR 200), some (vI (nI v)), some (vI (nI e)), some (vI (nI t))]) (st' := [vI (nI e), vI (nI v), vR 200, vR 202, vI (nI t)]) rfl ?_
  refine g_cV1 rfl (args := [vR 200, vI (nI v), vI (nI e)]) (rest := [vR 202, vI (nI t)]) rfl rfl rfl (s_109 (d := d + 1) hI hL hD (by omega) (by omega)) ?_
  have t1 := (pgf_ok hI (v := v) (e := e) (by omega) (by omega)).1
  refine g_pure 3 (i' := 10) (lv' := [some (vR 200), some (vI (nI v)), some (vI (nI e)), some (vI (nI t))]) (st' := [vI (nI t), vR 202, vI (nI (pgf S v e)), vR 202, vI (nI t)]) rfl ?_
  refine g_cV1 rfl (args := [vR 202, vI (nI t)]) (rest := [vI (nI (pgf S v e)), vR 202, vI (nI t)]) rfl rfl rfl (s_37n (d := d) hI hL hD (by omega)) ?_
  have t2 := Nat.mod_lt (t) (y := sn S 9) (by omega)
  refine g_pure 1 (i' := 12) (lv' := [some (vR 200), some (vI (nI v)), some (vI (nI e)), some (vI (nI t))]) (st' := [vI (nI (pgf S v e) - nI (t % sn S 9)), vR 202, vI (nI t)]) rfl ?_
  refine g_cV1 rfl (args := [vR 202, vI (nI (pgf S v e) - nI (t % sn S 9))]) (rest := [vI (nI t)]) rfl rfl rfl (s_37d (d := d) hI hL hD (by omega) (by omega)) ?_
  have t3 := Nat.mod_lt ((pgf S v e) + sn S 9 - (t % sn S 9)) (y := sn S 9) (by omega)
  refine g_pure 1 (i' := 14) (lv' := [some (vR 200), some (vI (nI v)), some (vI (nI e)), some (vI (nI t))]) (st' := [vI (nI t + nI (((pgf S v e) + sn S 9 - (t % sn S 9)) % sn S 9))]) rfl ?_
  refine gW_eq (lv' := [some (vR 200), some (vI (nI v)), some (vI (nI e)), some (vI (nI t))]) (st' := [vI (nI (t + ((pgf S v e) + sn S 9 - (t % sn S 9)) % sn S 9))]) rfl (by rw [(show (nI t + nI (((pgf S v e) + sn S 9 - (t % sn S 9)) % sn S 9)) = nI (t + ((pgf S v e) + sn S 9 - (t % sn S 9)) % sn S 9) from ((g_add (rfl : nI t = nI t) (rfl : nI (((pgf S v e) + sn S 9 - (t % sn S 9)) % sn S 9) = nI (((pgf S v e) + sn S 9 - (t % sn S 9)) % sn S 9)))).trans (congrArg nI (by omega)))]) rfl ?_
  refine g_iret rfl ?_
  exact rfl

theorem b_119_0 {X : Nat × (Nat → Int32)} {d : Nat} {p : Nat → Nat} {sg : Mg} {Q : am_R → Prop} {B : Nat} {S : Nat → Int32} (hI : Inv B S) (hL : cwL 250 sg S) (hD : cwD 200 sg S) {v : Nat} {u : Nat} {s : Nat} (u_v : v ≤ 5) (u_u : u ≤ 5) (u_s : s ≤ 16) (q1 : v < sn S 0) (q2 : u < sn S 0)
    (o1 : gW X (d + 3) k_119 4 [some (vR 200), some (vI (nI v)), some (vI (nI u)), some (vI (nI s)), some (vI 0), some (vI 0)] [] p sg Q) :
    gW X (d + 3) k_119 0 [some (vR 200), some (vI (nI v)), some (vI (nI u)), some (vI (nI s)), none, none] [] p sg Q := by
  have b0 := hI.b0; have b1 := hI.b1; have b2 := hI.b2; have b3 := hI.b3; have b4 := hI.b4; have b5 := hI.b5; have b6 := hI.b6; have b7 := hI.b7; have b8 := hI.b8; have b9 := hI.b9; have b14 := hI.b14
  refine g_pure 4 (i' := 4) (lv' := [some (vR 200), some (vI (nI v)), some (vI (nI u)), some (vI (nI s)), some (vI 0), some (vI 0)]) (st' := []) rfl ?_
  exact o1

theorem b_119_4 {X : Nat × (Nat → Int32)} {d : Nat} {p : Nat → Nat} {sg : Mg} {Q : am_R → Prop} {B : Nat} {S : Nat → Int32} (hI : Inv B S) (hL : cwL 250 sg S) (hD : cwD 200 sg S) {v : Nat} {u : Nat} {s : Nat} {c : Nat} {k : Nat} (u_v : v ≤ 5) (u_u : u ≤ 5) (u_s : s ≤ 16) (u_c : c ≤ 16) (u_k : k ≤ 16) (q1 : v < sn S 0) (q2 : u < sn S 0)
    (o1 : (sn S 9 ≤ k) → Q (gRv p sg (nI c)))
    (o2 : (¬ (sn S 9 ≤ k)) → (¬ sn S (17 + 16 * v + (k % sn S 9)) = sn S (17 + 16 * u + ((k + s) % sn S 9))) → gW X (d + 3) k_119 4 [some (vR 200), some (vI (nI v)), some (vI (nI u)), some (vI (nI s)), some (vI (nI c)), some (vI (nI (k + 1)))] [] p sg Q)
    (o3 : (¬ (sn S 9 ≤ k)) → (sn S (17 + 16 * v + (k % sn S 9)) = sn S (17 + 16 * u + ((k + s) % sn S 9))) → gW X (d + 3) k_119 4 [some (vR 200), some (vI (nI v)), some (vI (nI u)), some (vI (nI s)), some (vI (nI (c + 1))), some (vI (nI (k + 1)))] [] p sg Q) :
    gW X (d + 3) k_119 4 [some (vR 200), some (vI (nI v)), some (vI (nI u)), some (vI (nI s)), some (vI (nI c)), some (vI (nI k))] [] p sg Q := by
  have b0 := hI.b0; have b1 := hI.b1; have b2 := hI.b2; have b3 := hI.b3; have b4 := hI.b4; have b5 := hI.b5; have b6 := hI.b6; have b7 := hI.b7; have b8 := hI.b8; have b9 := hI.b9; have b14 := hI.b14
  refine g_pure 3 (i' := 7) (lv' := [some (vR 200), some (vI (nI v)), some (vI (nI u)), some (vI (nI s)), some (vI (nI c)), some (vI (nI k))]) (st' := [vR 202, vI (nI k)]) rfl ?_
  refine g_getI rfl (g_A (a := 202) (kd := 0) (n := 3) rfl (by decide)) (show _ = S 9 from hD.f5) ?_
  refine g_if2 (i' := 23) (P := sn S 9 ≤ k) rfl rfl (g_geN (show nI k = nI k from (rfl : nI k = nI k)) (show S 9 = nI (sn S 9) from (hI.c9)) (by omega) (by omega)) (fun h1 => ?_) (fun h1 => ?_)
  · refine g_pure 1 (i' := 24) (lv' := [some (vR 200), some (vI (nI v)), some (vI (nI u)), some (vI (nI s)), some (vI (nI c)), some (vI (nI k))]) (st' := [vI (nI c)]) rfl ?_
    refine g_iret rfl ?_
    exact o1 h1
  · refine g_pure 3 (i' := 12) (lv' := [some (vR 200), some (vI (nI v)), some (vI (nI u)), some (vI (nI s)), some (vI (nI c)), some (vI (nI k))]) (st' := [vI (nI k), vI (nI v), vR 200]) rfl ?_
    refine g_cV1 rfl (args := [vR 200, vI (nI v), vI (nI k)]) (rest := []) rfl rfl rfl (s_110 (d := d) hI hL hD (by omega) (by omega)) ?_
    have t2 := Nat.mod_lt (k) (y := sn S 9) (by omega)
    refine g_pure 5 (i' := 18) (lv' := [some (vR 200), some (vI (nI v)), some (vI (nI u)), some (vI (nI s)), some (vI (nI c)), some (vI (nI k))]) (st' := [vI (nI k + nI s), vI (nI u), vR 200, vI (S (17 + 16 * v + (k % sn S 9)))]) rfl ?_
    refine gW_eq (lv' := [some (vR 200), some (vI (nI v)), some (vI (nI u)), some (vI (nI s)), some (vI (nI c)), some (vI (nI k))]) (st' := [vI (nI (k + s)), vI (nI u), vR 200, vI (S (17 + 16 * v + (k % sn S 9)))]) rfl (by rw [(show (nI k + nI s) = nI (k + s) from ((g_add (rfl : nI k = nI k) (rfl : nI s = nI s))).trans (congrArg nI (by omega)))]) rfl ?_
    refine g_cV1 rfl (args := [vR 200, vI (nI u), vI (nI (k + s))]) (rest := [vI (S (17 + 16 * v + (k % sn S 9)))]) rfl rfl rfl (s_110 (d := d) hI hL hD (by omega) (by omega)) ?_
    have t3 := Nat.mod_lt ((k + s)) (y := sn S 9) (by omega)
    have t4 := hI.tbb (v := v) (q := k % sn S 9) (by omega) (by omega)
    have t5 := hI.tbb (v := u) (q := (k + s) % sn S 9) (by omega) (by omega)
    refine g_if2 (i' := 21) (P := ¬ sn S (17 + 16 * v + (k % sn S 9)) = sn S (17 + 16 * u + ((k + s) % sn S 9))) rfl rfl (g_neN (show S (17 + 16 * v + (k % sn S 9)) = nI (sn S (17 + 16 * v + (k % sn S 9))) from (hI.tb (by omega) (by omega))) (show S (17 + 16 * u + ((k + s) % sn S 9)) = nI (sn S (17 + 16 * u + ((k + s) % sn S 9))) from (hI.tb (by omega) (by omega))) (by omega) (by omega)) (fun h6 => ?_) (fun h6 => ?_)
    · refine g_pure 2 (i' := 4) (lv' := [some (vR 200), some (vI (nI v)), some (vI (nI u)), some (vI (nI s)), some (vI (nI c)), some (vI (nI k + 1))]) (st' := []) rfl ?_
      refine gW_eq (lv' := [some (vR 200), some (vI (nI v)), some (vI (nI u)), some (vI (nI s)), some (vI (nI c)), some (vI (nI (k + 1)))]) (st' := []) (by rw [(show (nI k + 1) = nI (k + 1) from ((g_add (rfl : nI k = nI k) (show (1 : Int32) = nI 1 from rfl))).trans (congrArg nI (by omega)))]) rfl rfl ?_
      exact o2 h1 h6
    · have h6 := Classical.not_not.mp h6
      refine g_pure 3 (i' := 4) (lv' := [some (vR 200), some (vI (nI v)), some (vI (nI u)), some (vI (nI s)), some (vI (nI c + 1)), some (vI (nI k + 1))]) (st' := []) rfl ?_
      refine gW_eq (lv' := [some (vR 200), some (vI (nI v)), some (vI (nI u)), some (vI (nI s)), some (vI (nI (c + 1))), some (vI (nI (k + 1)))]) (st' := []) (by rw [(show (nI c + 1) = nI (c + 1) from ((g_add (rfl : nI c = nI c) (show (1 : Int32) = nI 1 from rfl))).trans (congrArg nI (by omega))), (show (nI k + 1) = nI (k + 1) from ((g_add (rfl : nI k = nI k) (show (1 : Int32) = nI 1 from rfl))).trans (congrArg nI (by omega)))]) rfl rfl ?_
      exact o3 h1 h6

theorem b_118_0 {X : Nat × (Nat → Int32)} {d : Nat} {p : Nat → Nat} {sg : Mg} {Q : am_R → Prop} {B : Nat} {S : Nat → Int32} (hI : Inv B S) (hL : cwL 250 sg S) (hD : cwD 200 sg S) {v : Nat} {u : Nat} (u_v : v ≤ 5) (u_u : u ≤ 5) (q1 : v < sn S 0) (q2 : u < sn S 0)
    (o1 : gW X (d + 4) k_118 4 [some (vR 200), some (vI (nI v)), some (vI (nI u)), some (vI 0), some (vI 1)] [] p sg Q) :
    gW X (d + 4) k_118 0 [some (vR 200), some (vI (nI v)), some (vI (nI u)), none, none] [] p sg Q := by
  have b0 := hI.b0; have b1 := hI.b1; have b2 := hI.b2; have b3 := hI.b3; have b4 := hI.b4; have b5 := hI.b5; have b6 := hI.b6; have b7 := hI.b7; have b8 := hI.b8; have b9 := hI.b9; have b14 := hI.b14
  refine g_pure 4 (i' := 4) (lv' := [some (vR 200), some (vI (nI v)), some (vI (nI u)), some (vI 0), some (vI 1)]) (st' := []) rfl ?_
  exact o1
