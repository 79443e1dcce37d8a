/-! WAYS: where one starts, the bars (made by wip/whole/gen79.py) -/
theorem b_85_0 {X : Nat × (Nat → Int32)} {d : Nat} {p : Nat → Nat} {sg : Mg} {Q : am_R → Prop} {B : Nat} {S : Nat → Int32} (hI : Inv B S) (hL : cwL 250 sg S) (hD : cwD 200 sg S) {k : Nat} (u_k : k ≤ 7)
    (o1 : (¬ S (113 + 6 * k) = (-1)) → Q (gRv p sg 0))
    (o2 : (S (113 + 6 * k) = (-1)) → Q (gRv p sg 1)) :
    gW X (d) k_85 0 [some (vR 8), some (vI (nI k))] [] p sg Q := by
  have b0 := hI.b0; have b1 := hI.b1; have b2 := hI.b2; have b3 := hI.b3; have b4 := hI.b4; have b5 := hI.b5; have b6 := hI.b6; have b7 := hI.b7; have b8 := hI.b8; have b9 := hI.b9; have b14 := hI.b14
  refine g_pure 4 (i' := 4) (lv' := [some (vR 8), some (vI (nI k))]) (st' := [vI (nI k), vR 252]) rfl ?_
  refine g_ald rfl (g_A (a := 252) (kd := 1) (n := 8) rfl (by decide)) (by decide) (show nI k = nI k from (rfl : nI k = nI k)) (by omega) (show _ = S (113 + 6 * k) from (hL.per 0 (by decide) (by omega))) ?_
  refine g_pure 1 (i' := 6) (lv' := [some (vR 8), some (vI (nI k))]) (st' := [vI (-1), vI (S (113 + 6 * k))]) rfl ?_
  refine g_if2 (i' := 9) (P := ¬ S (113 + 6 * k) = (-1)) rfl rfl Iff.rfl (fun h1 => ?_) (fun h1 => ?_)
  · refine g_pure 1 (i' := 10) (lv' := [some (vR 8), some (vI (nI k))]) (st' := [vI 0]) rfl ?_
    refine g_bret rfl g_nar0 ?_
    exact o1 h1
  · have h1 := Classical.not_not.mp h1
    refine g_pure 2 (i' := 10) (lv' := [some (vR 8), some (vI (nI k))]) (st' := [vI 1]) rfl ?_
    refine g_bret rfl g_nar1 ?_
    exact o2 h1

/-- the village where one is or will be, and when one is there -/
def hmN (S : Nat → Int32) (k : Nat) : Nat := if S (113 + 6 * k) = -1 then sn S (113 + 6 * k + 1) else sn S (113 + 6 * k)
def stN (S : Nat → Int32) (k : Nat) : Nat := if S (113 + 6 * k) = -1 then sn S (113 + 6 * k + 2) else sn S 8
theorem hm_ok {B : Nat} {S : Nat → Int32} (hI : Inv B S) {k : Nat} (hk : k < sn S 1) : hmN S k < sn S 0 ∧ sn S 8 ≤ stN S k ∧ stN S k ≤ sn S 8 + 5 ∧ nI (hmN S k) = (if S (113 + 6 * k) = -1 then S (113 + 6 * k + 1) else S (113 + 6 * k)) ∧ nI (stN S k) = (if S (113 + 6 * k) = -1 then S (113 + 6 * k + 2) else S 8) := by
  have b0 := hI.b0
  unfold hmN stN
  rcases (hI.per hk).1 with h | h
  · have hne : ¬ S (113 + 6 * k) = -1 := by rw [h.1.1]; exact nI_m1 (by have := h.1.2; omega)
    rw [if_neg hne, if_neg hne, if_neg hne, if_neg hne]
    exact ⟨h.1.2, Nat.le_refl _, by omega, h.1.1.symm, hI.c8.symm⟩
  · rw [if_pos h.1, if_pos h.1, if_pos h.1, if_pos h.1]
    exact ⟨h.2.1.2, h.2.2.2, by have := h.2.2.1.2; omega, h.2.1.1.symm, h.2.2.1.1.symm⟩
theorem s_85 {X : Nat × (Nat → Int32)} {d : Nat} {p : Nat → Nat} {sg : Mg} {B : Nat} {S : Nat → Int32} (hI : Inv B S) (hL : cwL 250 sg S) (hD : cwD 200 sg S) {k : Nat} (hk : k ≤ 7) : gF X (d + 1) 85 [vR 8, vI (nI k)] p sg (fun r => r = gRv p sg (if S (113 + 6 * k) = -1 then 1 else 0)) := by
  refine g_in (cd := k_85) (nL := 2) (rc := 10) rfl (g_A (a := 8) (kd := 0) (n := 9) rfl (by decide)) (g_c1 rfl) (b_85_0 hI hL hD hk (fun h => ?_) (fun h => ?_))
  · rw [if_neg h]
  · rw [if_pos h]

theorem b_84_0 {X : Nat × (Nat → Int32)} {d : Nat} {p : Nat → Nat} {sg : Mg} {Q : am_R → Prop} {B : Nat} {S : Nat → Int32} (hI : Inv B S) (hL : cwL 250 sg S) (hD : cwD 200 sg S) {k : Nat} (u_k : k ≤ 7)
    (o1 : (¬ (S (113 + 6 * k) = -1)) → Q (gRv p sg (S (113 + 6 * k))))
    (o2 : ((S (113 + 6 * k) = -1)) → Q (gRv p sg (S (113 + 6 * k + 1)))) :
    gW X (d + 1) k_84 0 [some (vR 8), some (vI (nI k))] [] p sg Q := by
  have b0 := hI.b0; have b1 := hI.b1; have b2 := hI.b2; have b3 := hI.b3; have b4 := hI.b4; have b5 := hI.b5; have b6 := hI.b6; have b7 := hI.b7; have b8 := hI.b8; have b9 := hI.b9; have b14 := hI.b14
  refine g_pure 2 (i' := 2) (lv' := [some (vR 8), some (vI (nI k))]) (st' := [vI (nI k), vR 8]) rfl ?_
  refine g_cV1 rfl (args := [vR 8, vI (nI k)]) (rest := []) rfl rfl rfl (s_85 (d := d) hI hL hD (by omega)) ?_
  refine g_if1 (i' := 10) (P := ¬ (S (113 + 6 * k) = -1)) rfl rfl g_eqB (fun h1 => ?_) (fun h1 => ?_)
  · refine g_pure 4 (i' := 14) (lv' := [some (vR 8), some (vI (nI k))]) (st' := [vI (nI k), vR 252]) rfl ?_
    refine g_ald rfl (g_A (a := 252) (kd := 1) (n := 8) rfl (by decide)) (by decide) (show nI k = nI k from (rfl : nI k = nI k)) (by omega) (show _ = S (113 + 6 * k) from (hL.per 0 (by decide) (by omega))) ?_
    refine g_iret rfl ?_
    exact o1 h1
  · have h1 := Classical.not_not.mp h1
    refine g_pure 4 (i' := 8) (lv' := [some (vR 8), some (vI (nI k))]) (st' := [vI (nI k), vR 253]) rfl ?_
    refine g_ald rfl (g_A (a := 253) (kd := 1) (n := 8) rfl (by decide)) (by decide) (show nI k = nI k from (rfl : nI k = nI k)) (by omega) (show _ = S (113 + 6 * k + 1) from (hL.per 1 (by decide) (by omega))) ?_
    refine g_pure 1 (i' := 15) (lv' := [some (vR 8), some (vI (nI k))]) (st' := [vI (S (113 + 6 * k + 1))]) rfl ?_
    refine g_iret rfl ?_
    exact o2 h1

theorem b_86_0 {X : Nat × (Nat → Int32)} {d : Nat} {p : Nat → Nat} {sg : Mg} {Q : am_R → Prop} {B : Nat} {S : Nat → Int32} (hI : Inv B S) (hL : cwL 250 sg S) (hD : cwD 200 sg S) {k : Nat} (u_k : k ≤ 7)
    (o1 : (¬ (S (113 + 6 * k) = -1)) → Q (gRv p sg (S 8)))
    (o2 : ((S (113 + 6 * k) = -1)) → Q (gRv p sg (S (113 + 6 * k + 2)))) :
    gW X (d + 1) k_86 0 [some (vR 8), some (vI (nI k))] [] p sg Q := by
  have b0 := hI.b0; have b1 := hI.b1; have b2 := hI.b2; have b3 := hI.b3; have b4 := hI.b4; have b5 := hI.b5; have b6 := hI.b6; have b7 := hI.b7; have b8 := hI.b8; have b9 := hI.b9; have b14 := hI.b14
  refine g_pure 2 (i' := 2) (lv' := [some (vR 8), some (vI (nI k))]) (st' := [vI (nI k), vR 8]) rfl ?_
  refine g_cV1 rfl (args := [vR 8, vI (nI k)]) (rest := []) rfl rfl rfl (s_85 (d := d) hI hL hD (by omega)) ?_
  refine g_if1 (i' := 10) (P := ¬ (S (113 + 6 * k) = -1)) rfl rfl g_eqB (fun h1 => ?_) (fun h1 => ?_)
  · refine g_pure 2 (i' := 12) (lv' := [some (vR 8), some (vI (nI k))]) (st' := [vR 250]) rfl ?_
    refine g_getI rfl (g_A (a := 250) (kd := 0) (n := 6) rfl (by decide)) (show _ = S 8 from hL.f12) ?_
    refine g_iret rfl ?_
    exact o1 h1
  · have h1 := Classical.not_not.mp h1
    refine g_pure 4 (i' := 8) (lv' := [some (vR 8), some (vI (nI k))]) (st' := [vI (nI k), vR 254]) rfl ?_
    refine g_ald rfl (g_A (a := 254) (kd := 1) (n := 8) rfl (by decide)) (by decide) (show nI k = nI k from (rfl : nI k = nI k)) (by omega) (show _ = S (113 + 6 * k + 2) from (hL.per 2 (by decide) (by omega))) ?_
    refine g_pure 1 (i' := 13) (lv' := [some (vR 8), some (vI (nI k))]) (st' := [vI (S (113 + 6 * k + 2))]) rfl ?_
    refine g_iret rfl ?_
    exact o2 h1

theorem b_274_0 {X : Nat × (Nat → Int32)} {d : Nat} {p : Nat → Nat} {sg : Mg} {Q : am_R → Prop} {B : Nat} {S : Nat → Int32} (hI : Inv B S) (hS : sg 801 = S) {k : Nat} (u_k : k ≤ 7)
    (o1 : (0 ≤ S (113 + 6 * k)) → Q (gRv p sg (S (113 + 6 * k))))
    (o2 : (¬ (0 ≤ S (113 + 6 * k))) → Q (gRv p sg (S (113 + 6 * k + 1)))) :
    gW X (d + 1) k_274 0 [some (vR 800), some (vI (nI k))] [] p sg Q := by
  have b0 := hI.b0; have b1 := hI.b1; have b2 := hI.b2; have b3 := hI.b3; have b4 := hI.b4; have b5 := hI.b5; have b6 := hI.b6; have b7 := hI.b7; have b8 := hI.b8; have b9 := hI.b9; have b14 := hI.b14
  refine g_pure 3 (i' := 3) (lv' := [some (vR 800), some (vI (nI k))]) (st' := [vI 0, vI (nI k), vR 800]) rfl ?_
  refine gW_eq (st' := [vI (nI 0), vI (nI k), vR 800]) rfl (by rw [(show (0 : Int32) = nI 0 from rfl)]) rfl ?_
  refine g_cV1 rfl (args := [vR 800, vI (nI k), vI (nI 0)]) (rest := []) rfl rfl rfl (s_238 (d := d) hS (by omega) (by omega)) ?_
  refine gW_eq (st' := [vI (S (113 + 6 * k))]) rfl (by rw [show S (113 + 6 * k + 0) = S (113 + 6 * k) from congrArg S (by omega)]) rfl ?_
  refine g_if1 (i' := 10) (P := 0 ≤ S (113 + 6 * k)) rfl rfl Iff.rfl (fun h1 => ?_) (fun h1 => ?_)
  · refine g_pure 3 (i' := 13) (lv' := [some (vR 800), some (vI (nI k))]) (st' := [vI 0, vI (nI k), vR 800]) rfl ?_
    refine gW_eq (st' := [vI (nI 0), vI (nI k), vR 800]) rfl (by rw [(show (0 : Int32) = nI 0 from rfl)]) rfl ?_
    refine g_cV1 rfl (args := [vR 800, vI (nI k), vI (nI 0)]) (rest := []) rfl rfl rfl (s_238 (d := d) hS (by omega) (by omega)) ?_
    refine gW_eq (st' := [vI (S (113 + 6 * k))]) rfl (by rw [show S (113 + 6 * k + 0) = S (113 + 6 * k) from congrArg S (by omega)]) rfl ?_
    refine g_iret rfl ?_
    exact o1 h1
  · refine g_pure 3 (i' := 8) (lv' := [some (vR 800), some (vI (nI k))]) (st' := [vI 1, vI (nI k), vR 800]) rfl ?_
    refine gW_eq (st' := [vI (nI 1), vI (nI k), vR 800]) rfl (by rw [(show (1 : Int32) = nI 1 from rfl)]) rfl ?_
    refine g_cV1 rfl (args := [vR 800, vI (nI k), vI (nI 1)]) (rest := []) rfl rfl rfl (s_238 (d := d) hS (by omega) (by omega)) ?_
    refine g_pure 1 (i' := 14) (lv' := [some (vR 800), some (vI (nI k))]) (st' := [vI (S (113 + 6 * k + 1))]) rfl ?_
    refine g_iret rfl ?_
    exact o2 h1

theorem b_275_0 {X : Nat × (Nat → Int32)} {d : Nat} {p : Nat → Nat} {sg : Mg} {Q : am_R → Prop} {B : Nat} {S : Nat → Int32} (hI : Inv B S) (hS : sg 801 = S) {k : Nat} (u_k : k ≤ 7)
    (o1 : (0 ≤ S (113 + 6 * k)) → Q (gRv p sg 0))
    (o2 : (¬ (0 ≤ S (113 + 6 * k))) → Q (gRv p sg (S (113 + 6 * k + 2) - S 8))) :
    gW X (d + 1) k_275 0 [some (vR 800), some (vI (nI k))] [] p sg Q := by
  have b0 := hI.b0; have b1 := hI.b1; have b2 := hI.b2; have b3 := hI.b3; have b4 := hI.b4; have b5 := hI.b5; have b6 := hI.b6; have b7 := hI.b7; have b8 := hI.b8; have b9 := hI.b9; have b14 := hI.b14
  refine g_pure 3 (i' := 3) (lv' := [some (vR 800), some (vI (nI k))]) (st' := [vI 0, vI (nI k), vR 800]) rfl ?_
  refine gW_eq (st' := [vI (nI 0), vI (nI k), vR 800]) rfl (by rw [(show (0 : Int32) = nI 0 from rfl)]) rfl ?_
  refine g_cV1 rfl (args := [vR 800, vI (nI k), vI (nI 0)]) (rest := []) rfl rfl rfl (s_238 (d := d) hS (by omega) (by omega)) ?_
  refine gW_eq (st' := [vI (S (113 + 6 * k))]) rfl (by rw [show S (113 + 6 * k + 0) = S (113 + 6 * k) from congrArg S (by omega)]) rfl ?_
  refine g_if1 (i' := 13) (P := 0 ≤ S (113 + 6 * k)) rfl rfl Iff.rfl (fun h1 => ?_) (fun h1 => ?_)
  · refine g_pure 1 (i' := 14) (lv' := [some (vR 800), some (vI (nI k))]) (st' := [vI 0]) rfl ?_
    refine g_iret rfl ?_
    exact o1 h1
  · refine g_pure 3 (i' := 8) (lv' := [some (vR 800), some (vI (nI k))]) (st' := [vI 2, vI (nI k), vR 800]) rfl ?_
    refine gW_eq (st' := [vI (nI 2), vI (nI k), vR 800]) rfl (by rw [(show (2 : Int32) = nI 2 from rfl)]) rfl ?_
    refine g_cV1 rfl (args := [vR 800, vI (nI k), vI (nI 2)]) (rest := []) rfl rfl rfl (s_238 (d := d) hS (by omega) (by omega)) ?_
    refine g_pure 1 (i' := 10) (lv' := [some (vR 800), some (vI (nI k))]) (st' := [vR 800, vI (S (113 + 6 * k + 2))]) rfl ?_
    refine g_cV1 rfl (args := [vR 800]) (rest := [vI (S (113 + 6 * k + 2))]) rfl rfl rfl (s_248 (d := d) hS) ?_
    refine g_pure 2 (i' := 14) (lv' := [some (vR 800), some (vI (nI k))]) (st' := [vI (S (113 + 6 * k + 2) - S 8)]) rfl ?_
    refine g_iret rfl ?_
    exact o2 h1

theorem s_84 {X : Nat × (Nat → Int32)} {d : Nat} {p : Nat → Nat} {sg : Mg} {B : Nat} {S : Nat → Int32} (hI : Inv B S) (hL : cwL 250 sg S) (hD : cwD 200 sg S) {k : Nat} (hk : k < sn S 1) : gF X (d + 2) 84 [vR 8, vI (nI k)] p sg (fun r => r = gRv p sg (nI (hmN S k))) := by
  have b1 := hI.b1
  rw [(hm_ok hI hk).2.2.2.1]
  refine g_in (cd := k_84) (nL := 2) (rc := 10) rfl (g_A (a := 8) (kd := 0) (n := 9) rfl (by decide)) (g_c1 rfl) (b_84_0 hI hL hD (by omega) (fun h => ?_) (fun h => ?_))
  · rw [if_neg h]
  · rw [if_pos h]
theorem s_86 {X : Nat × (Nat → Int32)} {d : Nat} {p : Nat → Nat} {sg : Mg} {B : Nat} {S : Nat → Int32} (hI : Inv B S) (hL : cwL 250 sg S) (hD : cwD 200 sg S) {k : Nat} (hk : k < sn S 1) : gF X (d + 2) 86 [vR 8, vI (nI k)] p sg (fun r => r = gRv p sg (nI (stN S k))) := by
  have b1 := hI.b1
  rw [(hm_ok hI hk).2.2.2.2]
  refine g_in (cd := k_86) (nL := 2) (rc := 10) rfl (g_A (a := 8) (kd := 0) (n := 9) rfl (by decide)) (g_c1 rfl) (b_86_0 hI hL hD (by omega) (fun h => ?_) (fun h => ?_))
  · rw [if_neg h]
  · rw [if_pos h]
theorem at_ge {B : Nat} {S : Nat → Int32} (hI : Inv B S) {k : Nat} (hk : k < sn S 1) : 0 ≤ S (113 + 6 * k) ↔ ¬ S (113 + 6 * k) = -1 := by
  have b0 := hI.b0
  rcases (hI.per hk).1 with h | h
  · have := h.1.2
    rw [h.1.1]
    exact ⟨fun _ => nI_m1 (by omega), fun _ => nI_pos' (by omega)⟩
  · rw [h.1]; decide
theorem s_274 {X : Nat × (Nat → Int32)} {d : Nat} {p : Nat → Nat} {sg : Mg} {B : Nat} {S : Nat → Int32} (hI : Inv B S) (hS : sg 801 = S) {k : Nat} (hk : k < sn S 1) : gF X (d + 2) 274 [vR 800, vI (nI k)] p sg (fun r => r = gRv p sg (nI (hmN S k))) := by
  have b1 := hI.b1
  have h := at_ge hI hk
  rw [(hm_ok hI hk).2.2.2.1]
  refine g_in (cd := k_274) (nL := 2) (rc := 13) rfl (g_A (a := 800) (kd := 0) (n := 12) rfl (by decide)) (g_c1 rfl) (b_274_0 hI hS (by omega) (fun g => ?_) (fun g => ?_))
  · rw [if_neg (h.mp g)]
  · rw [if_pos (Classical.not_not.mp (fun h9 => g (h.mpr h9)))]
theorem s_275 {X : Nat × (Nat → Int32)} {d : Nat} {p : Nat → Nat} {sg : Mg} {B : Nat} {S : Nat → Int32} (hI : Inv B S) (hS : sg 801 = S) {k : Nat} (hk : k < sn S 1) : gF X (d + 2) 275 [vR 800, vI (nI k)] p sg (fun r => r = gRv p sg (nI (stN S k - sn S 8))) := by
  have b1 := hI.b1
  have h := at_ge hI hk
  obtain ⟨_, h2, _, _, h3⟩ := hm_ok hI hk
  rw [← nI_sub h2, h3, ← hI.c8]
  refine g_in (cd := k_275) (nL := 2) (rc := 13) rfl (g_A (a := 800) (kd := 0) (n := 12) rfl (by decide)) (g_c1 rfl) (b_275_0 hI hS (by omega) (fun g => ?_) (fun g => ?_))
  · rw [if_neg (h.mp g), Int32.sub_self]
  · rw [if_pos (Classical.not_not.mp (fun h9 => g (h.mpr h9)))]
/-- whether one is barred -/
def bd (S : Nat → Int32) (k v T : Nat) : Bool := brd S (scf S k v T) 0
def bcell (S : Nat → Int32) (k t : Nat) (x : Int32) : Prop := ∃ w, x = nI w ∧ w < 16384 ∧ ∀ v, v < 6 → w.testBit v = (w.testBit (8 + v) && bd S k v (sn S 8 + t))
/-- the bars that were asked for -/
def bOK (S : Nat → Int32) (s : Mg) : Prop := s 8 10 = (if hsk S 0 = true then 1 else 0) ∧ (hsk S 0 = true → ∀ k t, k < 8 → t ≤ 400 → bcell S k t (s 9 (401 * k + t)))
theorem bOK.out {S : Nat → Int32} {s : Mg} {a i : Nat} {x : Int32} (h : bOK S s) (ha : a ≠ 8 ∧ a ≠ 9) : bOK S (mu s a i x) := by
  unfold bOK
  rw [mu_ne (fun e => ha.1 e.symm), mu_ne (fun e => ha.2 e.symm)]
  exact h
theorem bOK.eq {S : Nat → Int32} {s s' : Mg} (h : bOK S s) (h8 : s' 8 = s 8) (h9 : s' 9 = s 9) : bOK S s' := by
  unfold bOK
  rw [h8, h9]
  exact h
def WF (sg s : Mg) : Prop := ∀ c, c ≠ 9 → c ≠ 201 → c ≠ 213 → s c = sg c
theorem WF.rf (sg : Mg) : WF sg sg := fun _ _ _ _ => rfl
theorem s_318 {X : Nat × (Nat → Int32)} {d : Nat} {p : Nat → Nat} {sg : Mg} {a n : Nat} {x : Int32} (hA : am_A (gE p) a 1 n) (hn : n ≤ 5000) : gF X (d + 1) 318 [vR a, vI x] p sg (fun r => ∃ s, ((∀ c, c ≠ a → s c = sg c) ∧ ∀ i, i < n → s a i = x) ∧ r = gR0 p s) := by
  refine g_in (cd := k_318) (nL := 4) (rc := 0) rfl trivial (g_c1 rfl) ?_
  show gW X d k_318 0 [some (vR a), some (vI x), none, none] [] p sg _
  refine g_pure 3 (i' := 3) (lv' := [some (vR a), some (vI x), some (vI (nI 0)), none]) (st' := [vR a]) rfl ?_
  refine g_len rfl (by decide) (by decide) hA ?_
  refine g_pure 1 (i' := 5) (lv' := [some (vR a), some (vI x), some (vI (nI 0)), some (vI (nI n))]) (st' := []) rfl ?_
  have key := g_upI (P := fun j => ∀ s, (∀ c, c ≠ a → s c = sg c) → (∀ i, i < j → s a i = x) → gW X d k_318 5 [some (vR a), some (vI x), some (vI (nI j)), some (vI (nI n))] [] p s (fun r => ∃ s, ((∀ c, c ≠ a → s c = sg c) ∧ ∀ i, i < n → s a i = x) ∧ r = gR0 p s)) (I := fun _ => True) (n := n) (a := 0) (by omega) trivial ?_ ?_
  · exact key sg (fun _ _ => rfl) (fun i hi => absurd hi (Nat.not_lt_zero _))
  · intro j _ hj _ ih s h1 h2
    refine g_pure 2 (i' := 7) (lv' := [some (vR a), some (vI x), some (vI (nI j)), some (vI (nI n))]) (st' := [vI (nI n), vI (nI j)]) rfl ?_
    refine g_if2 (i' := 14) (P := n ≤ j) rfl rfl (g_geN rfl rfl (by omega) (by omega)) (fun h => by omega) (fun _ => ?_)
    refine g_pure 3 (i' := 11) (lv' := [some (vR a), some (vI x), some (vI (nI j)), some (vI (nI n))]) (st' := [vI x, vI (nI j), vR a]) rfl ?_
    refine g_ast rfl hA (by omega) rfl hj ?_
    refine g_pure 2 (i' := 5) (lv' := [some (vR a), some (vI x), some (vI (nI j + 1)), some (vI (nI n))]) (st' := []) rfl ?_
    refine gW_eq (lv' := [some (vR a), some (vI x), some (vI (nI (j + 1))), some (vI (nI n))]) (by rw [nI_succ]) rfl rfl ?_
    refine ih trivial _ (fun c hc => by rw [mu_ne hc]; exact h1 c hc) (fun i hi => ?_)
    by_cases e : i = j
    · subst e; rw [mu_self]
    · rw [mu_idx e]; exact h2 i (by omega)
  · intro _ s h1 h2
    refine g_pure 2 (i' := 7) (lv' := [some (vR a), some (vI x), some (vI (nI n)), some (vI (nI n))]) (st' := [vI (nI n), vI (nI n)]) rfl ?_
    refine g_if2 (i' := 14) (P := n ≤ n) rfl rfl (g_geN rfl rfl (by omega) (by omega)) (fun _ => ?_) (fun h => by omega)
    exact g_vret rfl ⟨s, ⟨h1, h2⟩, rfl⟩
theorem s_82 {X : Nat × (Nat → Int32)} {d : Nat} {p : Nat → Nat} {sg : Mg} {S : Nat → Int32} (hW : LW S sg) : gF X (d + 2) 82 [vR 8] p sg (fun r => ∃ s, ((∀ c, c ≠ 8 → c ≠ 9 → s c = sg c) ∧ bOK S s) ∧ r = gR0 p s) := by
  refine g_in (cd := k_82) (nL := 1) (rc := 10) rfl (g_A (a := 8) (kd := 0) (n := 9) rfl (by decide)) (g_c1 rfl) ?_
  show gW X (d + 1) k_82 0 [some (vR 8)] [] p sg _
  refine g_pure 5 (i' := 5) (lv' := [some (vR 8)]) (st' := [vI 0, vR 208, vR 8]) rfl ?_
  refine gW_eq (st' := [vI (nI 0), vR 208, vR 8]) rfl rfl rfl ?_
  refine g_cV1 rfl (args := [vR 208, vI (nI 0)]) (rest := [vR 8]) rfl rfl rfl (s_47 (d := d) hW (by omega)) ?_
  refine g_putB rfl (g_A (a := 8) (kd := 0) (n := 9) rfl (by decide)) g_narB ?_
  refine g_setv (fun s1 e1 => ?_)
  have f1 : s1 8 10 = (if hsk S 0 = true then 1 else 0) := by rw [e1, mu_self]
  refine g_pure 1 (i' := 8) (lv' := [some (vR 8)]) (st' := [vR 8]) rfl ?_
  refine g_getI rfl (g_A (a := 8) (kd := 0) (n := 9) rfl (by decide)) f1 ?_
  refine g_if1 (i' := 14) (P := ¬ hsk S 0 = true) rfl rfl g_eqB (fun h => ?_) (fun h => ?_)
  · refine g_vret rfl ⟨s1, ⟨fun c c1 _ => by rw [e1, mu_ne c1], f1, fun h9 => absurd h9 h⟩, rfl⟩
  · refine g_pure 3 (i' := 13) (lv' := [some (vR 8)]) (st' := [vI 0, vR 9]) rfl ?_
    refine g_calS rfl (args := [vR 9, vI 0]) (rest := []) rfl rfl (Nat.zero_le _) (s_318 (d := d) (g_A (a := 9) (kd := 1) (n := 3208) rfl (by decide)) (by omega)) (fun q hq => ?_)
    obtain ⟨s2, h2, rfl⟩ := hq
    refine gK_0 (g_vret rfl ⟨s2, ⟨fun c c1 c2 => by rw [h2.1 c c2, e1, mu_ne c1], by rw [h2.1 8 (by decide)]; exact f1, fun _ k t hk ht => ?_⟩, rfl⟩)
    rw [h2.2 _ (by omega)]
    exact ⟨0, rfl, by decide, fun v _ => by rw [Nat.zero_testBit, Nat.zero_testBit]; rfl⟩

theorem b_88_0 {X : Nat × (Nat → Int32)} {d : Nat} {p : Nat → Nat} {sg : Mg} {Q : am_R → Prop} {B : Nat} {S : Nat → Int32} (hI : Inv B S) (hL : cwL 250 sg S) (hD : cwD 200 sg S) {k : Nat} {v : Nat} {t : Nat} (u_k : k ≤ 7) (u_v : v ≤ 5) (u_t : t ≤ 200400) (q1 : k < sn S 1) (q2 : sn S 8 ≤ t) (q3 : t ≤ sn S 8 + 400) (ho : sg 8 10 = 1)
    (o1 : ((t - sn S 8) ≤ 400) → (¬ ((sg 9 (401 * k + (t - sn S 8)) >>> ((8 + nI v) &&& 31)) &&& 1) = 0) → gW X (d + 4) k_88 71 [some (vR 8), some (vI (nI k)), some (vI (nI v)), some (vI (nI t)), some (vI (nI (t - sn S 8))), some (vI (nI (401 * k + (t - sn S 8))))] [] p sg Q)
    (o2 : ((t - sn S 8) ≤ 400) → (((sg 9 (401 * k + (t - sn S 8)) >>> ((8 + nI v) &&& 31)) &&& 1) = 0) → ∀ s5 : Mg, s5 = mu sg 9 (401 * k + (t - sn S 8)) (sg 9 (401 * k + (t - sn S 8)) ||| (1 <<< ((8 + nI v) &&& 31))) → gW X (d + 4) k_88 46 [some (vR 8), some (vI (nI k)), some (vI (nI v)), some (vI (nI t)), some (vI (nI (t - sn S 8))), some (vI (nI (401 * k + (t - sn S 8))))] [] p s5 Q)
    (o3 : (¬ ((t - sn S 8) ≤ 400)) → Q (gRv p sg 1)) :
    gW X (d + 4) k_88 0 [some (vR 8), some (vI (nI k)), some (vI (nI v)), some (vI (nI t)), none, none] [] p sg Q := by
  have b0 := hI.b0; have b1 := hI.b1; have b2 := hI.b2; have b3 := hI.b3; have b4 := hI.b4; have b5 := hI.b5; have b6 := hI.b6; have b7 := hI.b7; have b8 := hI.b8; have b9 := hI.b9; have b14 := hI.b14
  refine g_pure 3 (i' := 3) (lv' := [some (vR 8), some (vI (nI k)), some (vI (nI v)), some (vI (nI t)), none, none]) (st' := [vR 250, vI (nI t)]) rfl ?_
  refine g_getI rfl (g_A (a := 250) (kd := 0) (n := 6) rfl (by decide)) (show _ = S 8 from hL.f12) ?_
  refine gW_eq (lv' := [some (vR 8), some (vI (nI k)), some (vI (nI v)), some (vI (nI t)), none, none]) (st' := [vI (nI (sn S 8)), vI (nI t)]) rfl (by rw [(show S 8 = nI (sn S 8) from (hI.c8))]) rfl ?_
  refine g_pure 3 (i' := 7) (lv' := [some (vR 8), some (vI (nI k)), some (vI (nI v)), some (vI (nI t)), some (vI (nI t - nI (sn S 8))), none]) (st' := [vR 8]) rfl ?_
  refine gW_eq (lv' := [some (vR 8), some (vI (nI k)), some (vI (nI v)), some (vI (nI t)), some (vI (nI (t - sn S 8))), none]) (st' := [vR 8]) (by rw [(show (nI t - nI (sn S 8)) = nI (t - sn S 8) from (g_sub (rfl : nI t = nI t) (rfl : nI (sn S 8) = nI (sn S 8)) (by omega)))]) rfl rfl ?_
  refine g_getI rfl (g_A (a := 8) (kd := 0) (n := 9) rfl (by decide)) (show _ = 1 from ho) ?_
  refine g_if1 (i' := 14) (P := 1 = 0) rfl rfl (g_eqN (show 1 = nI 1 from (show (1 : Int32) = nI 1 from rfl)) (show 0 = nI 0 from (show (0 : Int32) = nI 0 from rfl)) (by omega) (by omega)) (fun h1 => absurd h1 (by omega)) (fun _ => ?_)
  refine g_pure 1 (i' := 10) (lv' := [some (vR 8), some (vI (nI k)), some (vI (nI v)), some (vI (nI t)), some (vI (nI (t - sn S 8))), none]) (st' := [vI (nI (t - sn S 8))]) rfl ?_
  refine g_if1 (i' := 14) (P := (t - sn S 8) < 0) rfl rfl (g_ltN (show nI (t - sn S 8) = nI (t - sn S 8) from (rfl : nI (t - sn S 8) = nI (t - sn S 8))) (show 0 = nI 0 from (show (0 : Int32) = nI 0 from rfl)) (by omega) (by omega)) (fun h2 => absurd h2 (by omega)) (fun _ => ?_)
  refine g_pure 2 (i' := 13) (lv' := [some (vR 8), some (vI (nI k)), some (vI (nI v)), some (vI (nI t)), some (vI (nI (t - sn S 8))), none]) (st' := [vI 400, vI (nI (t - sn S 8))]) rfl ?_
  refine g_if2 (i' := 17) (P := (t - sn S 8) ≤ 400) rfl rfl (g_leN (show nI (t - sn S 8) = nI (t - sn S 8) from (rfl : nI (t - sn S 8) = nI (t - sn S 8))) (show 400 = nI 400 from (show (400 : Int32) = nI 400 from rfl)) (by omega) (by omega)) (fun h3 => ?_) (fun h3 => ?_)
  · refine g_pure 9 (i' := 26) (lv' := [some (vR 8), some (vI (nI k)), some (vI (nI v)), some (vI (nI t)), some (vI (nI (t - sn S 8))), some (vI ((nI k * 401) + nI (t - sn S 8)))]) (st' := [vI ((nI k * 401) + nI (t - sn S 8)), vR 9]) rfl ?_
    refine gW_eq (lv' := [some (vR 8), some (vI (nI k)), some (vI (nI v)), some (vI (nI t)), some (vI (nI (t - sn S 8))), some (vI (nI (401 * k + (t - sn S 8))))]) (st' := [vI (nI (401 * k + (t - sn S 8))), vR 9]) (by rw [(show ((nI k * 401) + nI (t - sn S 8)) = nI (401 * k + (t - sn S 8)) from ((g_add (g_mul (rfl : nI k = nI k) (show (401 : Int32) = nI 401 from rfl)) (rfl : nI (t - sn S 8) = nI (t - sn S 8)))).trans (congrArg nI (by omega)))]) (by rw [(show ((nI k * 401) + nI (t - sn S 8)) = nI (401 * k + (t - sn S 8)) from ((g_add (g_mul (rfl : nI k = nI k) (show (401 : Int32) = nI 401 from rfl)) (rfl : nI (t - sn S 8) = nI (t - sn S 8)))).trans (congrArg nI (by omega)))]) rfl ?_
    refine g_ald rfl (g_A (a := 9) (kd := 1) (n := 3208) rfl (by decide)) (by decide) (show nI (401 * k + (t - sn S 8)) = nI (401 * k + (t - sn S 8)) from (rfl : nI (401 * k + (t - sn S 8)) = nI (401 * k + (t - sn S 8)))) (by omega) (show _ = sg 9 (401 * k + (t - sn S 8)) from rfl) ?_
    refine g_pure 6 (i' := 33) (lv' := [some (vR 8), some (vI (nI k)), some (vI (nI v)), some (vI (nI t)), some (vI (nI (t - sn S 8))), some (vI (nI (401 * k + (t - sn S 8))))]) (st' := [vI ((sg 9 (401 * k + (t - sn S 8)) >>> ((8 + nI v) &&& 31)) &&& 1)]) rfl ?_
    refine g_if1 (i' := 71) (P := ¬ ((sg 9 (401 * k + (t - sn S 8)) >>> ((8 + nI v) &&& 31)) &&& 1) = 0) rfl rfl Iff.rfl (fun h4 => ?_) (fun h4 => ?_)
    · exact o1 h3 h4
    · have h4 := Classical.not_not.mp h4
      refine g_pure 4 (i' := 38) (lv' := [some (vR 8), some (vI (nI k)), some (vI (nI v)), some (vI (nI t)), some (vI (nI (t - sn S 8))), some (vI (nI (401 * k + (t - sn S 8))))]) (st' := [vI (nI (401 * k + (t - sn S 8))), vR 9, vI (nI (401 * k + (t - sn S 8))), vR 9]) rfl ?_
      refine g_ald rfl (g_A (a := 9) (kd := 1) (n := 3208) rfl (by decide)) (by decide) (show nI (401 * k + (t - sn S 8)) = nI (401 * k + (t - sn S 8)) from (rfl : nI (401 * k + (t - sn S 8)) = nI (401 * k + (t - sn S 8)))) (by omega) (show _ = sg 9 (401 * k + (t - sn S 8)) from rfl) ?_
      refine g_pure 6 (i' := 45) (lv' := [some (vR 8), some (vI (nI k)), some (vI (nI v)), some (vI (nI t)), some (vI (nI (t - sn S 8))), some (vI (nI (401 * k + (t - sn S 8))))]) (st' := [vI (sg 9 (401 * k + (t - sn S 8)) ||| (1 <<< ((8 + nI v) &&& 31))), vI (nI (401 * k + (t - sn S 8))), vR 9]) rfl ?_
      refine g_ast rfl (g_A (a := 9) (kd := 1) (n := 3208) rfl (by decide)) (by decide) (show nI (401 * k + (t - sn S 8)) = nI (401 * k + (t - sn S 8)) from (rfl : nI (401 * k + (t - sn S 8)) = nI (401 * k + (t - sn S 8)))) (by omega) ?_
      refine g_setv (fun s5 es5 => ?_)
      have hLs5 : cwL 250 s5 S := by rw [es5]; exact hL.out (by decide)
      have hDs5 : cwD 200 s5 S := by rw [es5]; exact hD.out (by decide)
      exact o2 h3 h4 s5 es5
  · refine g_pure 1 (i' := 15) (lv' := [some (vR 8), some (vI (nI k)), some (vI (nI v)), some (vI (nI t)), some (vI (nI (t - sn S 8))), none]) (st' := [vR 8]) rfl ?_
    refine g_getI rfl (g_A (a := 8) (kd := 0) (n := 9) rfl (by decide)) (show _ = 1 from ho) ?_
    refine g_bret rfl g_nar1 ?_
    exact o3 h3

theorem b_88_n {X : Nat × (Nat → Int32)} {d : Nat} {p : Nat → Nat} {sg : Mg} {Q : am_R → Prop} {B : Nat} {S : Nat → Int32} (hI : Inv B S) (hL : cwL 250 sg S) (hD : cwD 200 sg S) {k : Nat} {v : Nat} {t : Nat} (u_k : k ≤ 7) (u_v : v ≤ 5) (u_t : t ≤ 200400) (q1 : k < sn S 1) (q2 : sn S 8 ≤ t) (q3 : t ≤ sn S 8 + 400) (ho : sg 8 10 = 0)
    (o1 : Q (gRv p sg 0)) :
    gW X (d + 4) k_88 0 [some (vR 8), some (vI (nI k)), some (vI (nI v)), some (vI (nI t)), none, none] [] p sg Q := by
  have b0 := hI.b0; have b1 := hI.b1; have b2 := hI.b2; have b3 := hI.b3; have b4 := hI.b4; have b5 := hI.b5; have b6 := hI.b6; have b7 := hI.b7; have b8 := hI.b8; have b9 := hI.b9; have b14 := hI.b14
  refine g_pure 3 (i' := 3) (lv' := [some (vR 8), some (vI (nI k)), some (vI (nI v)), some (vI (nI t)), none, none]) (st' := [vR 250, vI (nI t)]) rfl ?_
  refine g_getI rfl (g_A (a := 250) (kd := 0) (n := 6) rfl (by decide)) (show _ = S 8 from hL.f12) ?_
  refine gW_eq (lv' := [some (vR 8), some (vI (nI k)), some (vI (nI v)), some (vI (nI t)), none, none]) (st' := [vI (nI (sn S 8)), vI (nI t)]) rfl (by rw [(show S 8 = nI (sn S 8) from (hI.c8))]) rfl ?_
  refine g_pure 3 (i' := 7) (lv' := [some (vR 8), some (vI (nI k)), some (vI (nI v)), some (vI (nI t)), some (vI (nI t - nI (sn S 8))), none]) (st' := [vR 8]) rfl ?_
  refine gW_eq (lv' := [some (vR 8), some (vI (nI k)), some (vI (nI v)), some (vI (nI t)), some (vI (nI (t - sn S 8))), none]) (st' := [vR 8]) (by rw [(show (nI t - nI (sn S 8)) = nI (t - sn S 8) from (g_sub (rfl : nI t = nI t) (rfl : nI (sn S 8) = nI (sn S 8)) (by omega)))]) rfl rfl ?_
  refine g_getI rfl (g_A (a := 8) (kd := 0) (n := 9) rfl (by decide)) (show _ = 0 from ho) ?_
  refine g_if1 (i' := 14) (P := 0 = 0) rfl rfl (g_eqN (show 0 = nI 0 from (show (0 : Int32) = nI 0 from rfl)) (show 0 = nI 0 from (show (0 : Int32) = nI 0 from rfl)) (by omega) (by omega)) (fun _ => ?_) (fun h1 => absurd (by omega) h1)
  refine g_pure 1 (i' := 15) (lv' := [some (vR 8), some (vI (nI k)), some (vI (nI v)), some (vI (nI t)), some (vI (nI (t - sn S 8))), none]) (st' := [vR 8]) rfl ?_
  refine g_getI rfl (g_A (a := 8) (kd := 0) (n := 9) rfl (by decide)) (show _ = 0 from ho) ?_
  refine g_bret rfl g_nar0 ?_
  exact o1

theorem b_88_71 {X : Nat × (Nat → Int32)} {d : Nat} {p : Nat → Nat} {sg : Mg} {Q : am_R → Prop} {k : Nat} {v : Nat} {t : Nat} {z4 : Option AV} {e : Nat} (u_k : k ≤ 7) (u_v : v ≤ 5) (u_t : t ≤ 200400) (u_e : e ≤ 3207)
    (o1 : (((sg 9 e >>> (nI v &&& 31)) &&& 1) = 0) → Q (gRv p sg 0))
    (o2 : (¬ (((sg 9 e >>> (nI v &&& 31)) &&& 1) = 0)) → Q (gRv p sg 1)) :
    gW X (d + 4) k_88 71 [some (vR 8), some (vI (nI k)), some (vI (nI v)), some (vI (nI t)), z4, some (vI (nI e))] [] p sg Q := by
  refine g_pure 3 (i' := 74) (lv' := [some (vR 8), some (vI (nI k)), some (vI (nI v)), some (vI (nI t)), z4, some (vI (nI e))]) (st' := [vI (nI e), vR 9]) rfl ?_
  refine g_ald rfl (g_A (a := 9) (kd := 1) (n := 3208) rfl (by decide)) (by decide) (show nI e = nI e from (rfl : nI e = nI e)) (by omega) (show _ = sg 9 e from rfl) ?_
  refine g_pure 4 (i' := 79) (lv' := [some (vR 8), some (vI (nI k)), some (vI (nI v)), some (vI (nI t)), z4, some (vI (nI e))]) (st' := [vI ((sg 9 e >>> (nI v &&& 31)) &&& 1)]) rfl ?_
  refine g_if1 (i' := 82) (P := ((sg 9 e >>> (nI v &&& 31)) &&& 1) = 0) rfl rfl Iff.rfl (fun h1 => ?_) (fun h1 => ?_)
  · refine g_pure 1 (i' := 83) (lv' := [some (vR 8), some (vI (nI k)), some (vI (nI v)), some (vI (nI t)), z4, some (vI (nI e))]) (st' := [vI 0]) rfl ?_
    refine g_bret rfl g_nar0 ?_
    exact o1 h1
  · refine g_pure 2 (i' := 83) (lv' := [some (vR 8), some (vI (nI k)), some (vI (nI v)), some (vI (nI t)), z4, some (vI (nI e))]) (st' := [vI 1]) rfl ?_
    refine g_bret rfl g_nar1 ?_
    exact o2 h1

theorem w_bits {w v : Nat} (hw : w < 16384) (hv : v < 6) : (nI w ||| (1 <<< ((8 + nI v) &&& 31))) = nI (w ||| 2 ^ (8 + v)) ∧ w ||| 2 ^ (8 + v) < 16384 ∧ (((nI w >>> ((8 + nI v) &&& 31)) &&& 1) = 0 ↔ w.testBit (8 + v) = false) ∧ (((nI w >>> (nI v &&& 31)) &&& 1) = 0 ↔ w.testBit v = false) ∧ (nI w ||| (1 <<< (nI v &&& 31))) = nI (w ||| 2 ^ v) ∧ w ||| 2 ^ v < 16384 := by
  rw [show (8 : Int32) + nI v = nI (8 + v) from nI_add 8 v]
  exact ⟨nI_orbit (by omega), or_lt (n := 14) hw (pow_lt2 (by omega)), nI_bit0 (by omega) (by omega), nI_bit0 (by omega) (by omega), nI_orbit (by omega), or_lt (n := 14) hw (pow_lt2 (by omega))⟩
theorem tb_or {w a b : Nat} : (w ||| 2 ^ a).testBit b = (w.testBit b || decide (a = b)) := by rw [Nat.testBit_or, Nat.testBit_two_pow]
theorem s_88 {X : Nat × (Nat → Int32)} {d : Nat} {p : Nat → Nat} {sg : Mg} {B : Nat} {S : Nat → Int32} (hI : Inv B S) (hL : cwL 250 sg S) (hD : cwD 200 sg S) (hW : LW S sg) (hB : bOK S sg) {k v t : Nat} (hk : k < sn S 1) (hv : v < sn S 0) (h1 : sn S 8 ≤ t) (h2 : t ≤ sn S 8 + 400) : gF X (d + 5) 88 [vR 8, vI (nI k), vI (nI v), vI (nI t)] p sg (fun r => ∃ s, (WF sg s ∧ bOK S s) ∧ r = gRv p s (if bd S k v t = true then 1 else 0)) := by
  have b0 := hI.b0; have b1 := hI.b1; have b8 := hI.b8
  have hB' := hB
  obtain ⟨hf, hc⟩ := hB'
  by_cases hh : hsk S 0 = true
  · rw [if_pos hh] at hf
    have hcl := hc hh k (t - sn S 8) (by omega) (by omega)
    obtain ⟨w, ew, lw, iw⟩ := hcl
    have iw1 := iw v (by omega)
    rw [show sn S 8 + (t - sn S 8) = t by omega] at iw1
    obtain ⟨q1, q2, q3, q4, _, _⟩ := w_bits lw (show v < 6 by omega)
    refine g_in (cd := k_88) (nL := 6) (rc := 10) rfl (g_A (a := 8) (kd := 0) (n := 9) rfl (by decide)) (g_c1 rfl) (b_88_0 hI hL hD (by omega) (by omega) (by omega) hk h1 h2 hf (fun _ h => ?_) (fun _ h s5 e5 => ?_) (fun h => absurd (show t - sn S 8 ≤ 400 by omega) h))
    · rw [ew] at h
      have hb : w.testBit (8 + v) = true := by
        have := fun h9 => h (q3.mpr h9)
        simpa using this
      rw [hb, Bool.true_and] at iw1
      refine b_88_71 (by omega) (by omega) (by omega) (by omega) (fun h9 => ?_) (fun h9 => ?_)
      · rw [ew, q4, iw1] at h9
        rw [h9]
        exact ⟨sg, ⟨WF.rf _, hB⟩, rfl⟩
      · rw [ew, q4, iw1] at h9
        rw [if_pos (by simpa using h9)]
        exact ⟨sg, ⟨WF.rf _, hB⟩, rfl⟩
    · rw [ew] at h e5
      rw [q1] at e5
      have hb := q3.mp h
      rw [hb, Bool.false_and] at iw1
      have hL5 : cwL 250 s5 S := by rw [e5]; exact hL.out (by decide)
      have hD5 : cwD 200 s5 S := by rw [e5]; exact hD.out (by decide)
      have hW5 : LW S s5 := hW.eqc (fun c c1 c2 => by rw [e5, mu_ne (by omega)])
      refine g_pure 5 (i' := 51) (lv' := [some (vR 8), some (vI (nI k)), some (vI (nI v)), some (vI (nI t)), some (vI (nI (t - sn S 8))), some (vI (nI (401 * k + (t - sn S 8))))]) (st' := [vI (nI t), vI (nI v), vI (nI k), vR 200]) rfl ?_
      refine g_cV0E rfl (args := [vR 200, vI (nI k), vI (nI v), vI (nI t)]) (rest := []) rfl rfl rfl (s_114 (d := d) hI hL5 hD5 hk hv (by omega)) (fun s6 h6 => ?_)
      refine g_pure 7 (i' := 59) (lv' := [some (vR 8), some (vI (nI k)), some (vI (nI v)), some (vI (nI t)), some (vI (nI (t - sn S 8))), some (vI (nI (401 * k + (t - sn S 8))))]) (st' := [vR 201, vI (nI 0), vR 208]) rfl ?_
      have hF : gF X (d + 4) 44 [vR 208, vI (nI 0), vR 201] p s6 (fun r => ∃ s, (∃ f, s = va_up s6 213 f) ∧ r = gRv p s (if brd S (scf S k v t) 0 = true then 1 else 0)) := by
        by_cases h7 : S 7 = 1
        · exact s_44 (d := d + 1) (hW5.lc h7 h6.1 h6.2) (by omega)
        · exact s_44x (d := d + 1) h7 (hW5.2.eqx (m := []) (fun c c1 c2 => h6.1 c (by omega))) (by omega)
      refine g_cV1E rfl (args := [vR 208, vI (nI 0), vR 201]) (rest := []) rfl rfl rfl hF (fun s7 h7 => ?_)
      obtain ⟨f, h7⟩ := h7
      have s79 : ∀ c, c ≠ 201 → c ≠ 213 → s7 c = s5 c := fun c c1 c2 => by rw [h7, va_up_ne _ _ c2, h6.1 c c1]
      have c79 : s7 9 (401 * k + (t - sn S 8)) = nI (w ||| 2 ^ (8 + v)) := by rw [s79 9 (by decide) (by decide), e5, mu_self]
      have o79 : ∀ i, i ≠ 401 * k + (t - sn S 8) → s7 9 i = sg 9 i := fun i hi => by rw [s79 9 (by decide) (by decide), e5, mu_idx hi]
      have f79 : s7 8 10 = sg 8 10 := by rw [s79 8 (by decide) (by decide), e5, mu_ne (by decide)]
      obtain ⟨_, _, _, q8, q9, q10⟩ := w_bits q2 (show v < 6 by omega)
      -- the new word is right
      have word : ∀ b, b = bd S k v t → ∀ u, u < 6 → (if b = true then (w ||| 2 ^ (8 + v)) ||| 2 ^ v else w ||| 2 ^ (8 + v)).testBit u = ((if b = true then (w ||| 2 ^ (8 + v)) ||| 2 ^ v else w ||| 2 ^ (8 + v)).testBit (8 + u) && bd S k u (sn S 8 + (t - sn S 8))) := by
        intro b eb u hu
        rw [show sn S 8 + (t - sn S 8) = t by omega]
        have iu := iw u hu
        rw [show sn S 8 + (t - sn S 8) = t by omega] at iu
        have t1 : (w ||| 2 ^ (8 + v)).testBit u = w.testBit u := by rw [tb_or, decide_eq_false (by omega), Bool.or_false]
        have t2 : (w ||| 2 ^ (8 + v)).testBit (8 + u) = (w.testBit (8 + u) || decide (v = u)) := by rw [tb_or]; congr 1; exact decide_eq_decide.mpr (by omega)
        have t3 : ((w ||| 2 ^ (8 + v)) ||| 2 ^ v).testBit u = (w.testBit u || decide (v = u)) := by rw [tb_or, t1]
        have t4 : ((w ||| 2 ^ (8 + v)) ||| 2 ^ v).testBit (8 + u) = (w.testBit (8 + u) || decide (v = u)) := by rw [tb_or, t2, decide_eq_false (show ¬ v = 8 + u by omega), Bool.or_false]
        by_cases e : v = u
        · subst e
          cases hbb : b
          · rw [if_neg (by decide), t1, t2, iw1, ← eb, hbb, Bool.and_false]
          · rw [if_pos rfl, t3, t4, ← eb, hbb, decide_eq_true rfl, Bool.or_true, Bool.or_true]; rfl
        · cases hbb : b
          · rw [if_neg (by decide), t1, t2, iu, decide_eq_false e, Bool.or_false]
          · rw [if_pos rfl, t3, t4, iu, decide_eq_false e, Bool.or_false, Bool.or_false]
      have done : ∀ s8 b, b = bd S k v t → (∀ c, c ≠ 9 → s8 c = s7 c) → (∀ i, i ≠ 401 * k + (t - sn S 8) → s8 9 i = sg 9 i) → s8 9 (401 * k + (t - sn S 8)) = nI (if b = true then (w ||| 2 ^ (8 + v)) ||| 2 ^ v else w ||| 2 ^ (8 + v)) → WF sg s8 ∧ bOK S s8 := by
        intro s8 b eb g1 g2 g3
        refine ⟨fun c c1 c2 c3 => by rw [g1 c c1, s79 c c2 c3, e5, mu_ne c1], by rw [g1 8 (by decide), f79, if_pos hh]; exact hf, fun _ k' t' hk' ht' => ?_⟩
        by_cases e : 401 * k' + t' = 401 * k + (t - sn S 8)
        · have e1 : k' = k := by omega
          have e2 : t' = t - sn S 8 := by omega
          subst e1 e2
          rw [g3]
          exact ⟨_, rfl, by split; exact q10; exact q2, word b eb⟩
        · rw [g2 _ e]
          exact hc hh k' t' hk' ht'
      refine g_if1 (i' := 71) (P := ¬ brd S (scf S k v t) 0 = true) rfl rfl g_eqB (fun hb2 => ?_) (fun hb2 => ?_)
      · have eb : false = bd S k v t := by
          have : ¬ bd S k v t = true := hb2
          simpa using this
        have e1 : (w ||| 2 ^ (8 + v)).testBit v = false := by rw [tb_or, decide_eq_false (by omega), Bool.or_false]; exact iw1
        rw [← eb]
        refine b_88_71 (by omega) (by omega) (by omega) (by omega) (fun h9 => ?_) (fun h9 => ?_)
        · exact ⟨s7, done s7 false eb (fun _ _ => rfl) o79 (by rw [c79]; rfl), rfl⟩
        · rw [c79, q8] at h9; exact absurd e1 h9
      · have eb : true = bd S k v t := (Classical.not_not.mp hb2).symm
        rw [← eb]
        refine g_pure 3 (i' := 64) (lv' := [some (vR 8), some (vI (nI k)), some (vI (nI v)), some (vI (nI t)), some (vI (nI (t - sn S 8))), some (vI (nI (401 * k + (t - sn S 8))))]) (st' := [vI (nI (401 * k + (t - sn S 8))), vR 9]) rfl ?_
        refine g_pure 1 (i' := 65) (lv' := [some (vR 8), some (vI (nI k)), some (vI (nI v)), some (vI (nI t)), some (vI (nI (t - sn S 8))), some (vI (nI (401 * k + (t - sn S 8))))]) (st' := [vI (nI (401 * k + (t - sn S 8))), vR 9, vI (nI (401 * k + (t - sn S 8))), vR 9]) rfl ?_
        refine g_ald rfl (g_A (a := 9) (kd := 1) (n := 3208) rfl (by decide)) (by decide) rfl (by omega) c79 ?_
        refine g_pure 4 (i' := 70) (lv' := [some (vR 8), some (vI (nI k)), some (vI (nI v)), some (vI (nI t)), some (vI (nI (t - sn S 8))), some (vI (nI (401 * k + (t - sn S 8))))]) (st' := [vI (nI (w ||| 2 ^ (8 + v)) ||| (1 <<< (nI v &&& 31))), vI (nI (401 * k + (t - sn S 8))), vR 9]) rfl ?_
        refine g_ast rfl (g_A (a := 9) (kd := 1) (n := 3208) rfl (by decide)) (by decide) rfl (by omega) ?_
        rw [q9]
        have e1 : ((w ||| 2 ^ (8 + v)) ||| 2 ^ v).testBit v = true := by rw [tb_or, decide_eq_true rfl, Bool.or_true]
        refine b_88_71 (by omega) (by omega) (by omega) (by omega) (fun h9 => ?_) (fun h9 => ?_)
        · rw [mu_self, (w_bits q10 (show v < 6 by omega)).2.2.2.1, e1] at h9; cases h9
        · exact ⟨_, done _ true eb (fun c hc => mu_ne hc) (fun i hi => by rw [mu_idx hi]; exact o79 i hi) (by rw [mu_self]; rfl), rfl⟩
  · rw [if_neg hh] at hf
    have hb : bd S k v t = false := hsk_brd (by simpa using hh)
    refine g_in (cd := k_88) (nL := 6) (rc := 10) rfl (g_A (a := 8) (kd := 0) (n := 9) rfl (by decide)) (g_c1 rfl) (b_88_n hI hL hD (by omega) (by omega) (by omega) hk h1 h2 hf ?_)
    rw [hb]
    exact ⟨sg, ⟨WF.rf _, hB⟩, rfl⟩
