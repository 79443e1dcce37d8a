/-! LAW: the call, in the class (made by wip/whole/gen89zzj.py) -/
section
variable {T : Nat → Int32} {n : Nat}
/-- each line is of a kind -/
def KOK (L : LLn) : Prop := ∀ i, i < L.length → (L.getD i (0, 0, 0)).1 < 3
theorem plLine_K {k : Nat} {E : LE} {L : LLn} {q : Nat × LE × LLn} (hL : KOK L) (h : plLine T n k E L = .inr q) : KOK q.2.2 := by
  by_cases c : kdW T n k < 3
  · cases hG : plGain T n (nxK T n k) (kdW T n k) with
    | inl f => rw [plLine_g c hG] at h; cases h
    | inr g =>
      cases hC : plCond T n g.1 E with
      | inl f => rw [plLine_c c hG hC] at h; cases h
      | inr v =>
        rw [plLine_r c hG hC] at h
        cases h
        intro i hi
        show ((L ++ [(kdW T n k, g.2, v.2.length)]).getD i (0, 0, 0)).1 < 3
        have hi : i < (L ++ [(kdW T n k, g.2, v.2.length)]).length := hi
        rw [List.length_append] at hi
        have hi : i < L.length + 1 := hi
        rw [getD_app hi]
        by_cases e : i = L.length
        · rw [if_pos e]; exact c
        · rw [if_neg e]; exact hL i (by omega)
  · rw [plLine_k c] at h; cases h
theorem raL_K : ∀ (j k : Nat) (E : LE) (L : LLn) (q : Nat × LE × LLn), KOK L → raL T n j k E L = .inr q → KOK q.2.2
  | 0, _, _, _, _, _, h => by cases h
  | j + 1, k, E, L, q, hL, h => by
    cases hR : plLine T n k E L with
    | inl f => rw [raL_at hR] at h; cases h
    | inr v =>
      rw [raL_go hR] at h
      have g := plLine_K hL hR
      by_cases c : n ≤ spK T n v.1
      · rw [sel_t c] at h; cases h; exact g
      · rw [sel_f c] at h
        by_cases c2 : isW T n v.1 [59]
        · rw [sel_t c2] at h; exact raL_K j _ _ _ _ g h
        · rw [sel_f c2] at h; cases h
theorem prLaw_K {q : Nat × LE × LLn} (h : prLaw T n = .inr q) : KOK q.2.2 := by
  unfold prLaw at h
  by_cases c : n ≤ spK T n 0
  · rw [sel_t c] at h; cases h; exact fun i hi => absurd hi (Nat.not_lt_zero _)
  · rw [sel_f c] at h
    exact raL_K 12 0 [] [] q (fun i hi => absurd hi (Nat.not_lt_zero _)) h
end
/-- what is left of a text of the law -/
def LWR (E : LE) (L : LLn) (S : Nat → Int32) : Prop := S 7 = 1 ∧ S 709 = nI L.length ∧ (∀ i, i < L.length → S (710 + 4 * i) = nI (L.getD i (0, 0, 0)).1 ∧ S (710 + 4 * i + 1) = nI (L.getD i (0, 0, 0)).2.1 ∧ S (710 + 4 * i + 2) = nI (if i = 0 then 0 else (L.getD (i - 1) (0, 0, 0)).2.2) ∧ S (710 + 4 * i + 3) = nI (L.getD i (0, 0, 0)).2.2) ∧ ∀ i, i < E.length → S (758 + 2 * i) = nI (E.getD i (0, 0)).1 ∧ S (758 + 2 * i + 1) = nI (E.getD i (0, 0)).2
/-- the world behind a text of the law: the draft is whatever -/
def LSP (A : AS) (S' : Nat → Int32) : Prop := match prLaw A.T A.tl with
  | .inl _ => ∀ i, i < 1558 → S' i = A.S i
  | .inr q => (∀ i, i < 709 → i ≠ 7 → S' i = A.S i) ∧ LWR q.2.1 q.2.2 S'
def acD (A : AS) (S' : Nat → Int32) (i j : Nat) : Int32 := if j < 1558 then A.ac i j else S' j
noncomputable def lawA (A : AS) (S' : Nat → Int32) : AS := match prLaw A.T A.tl with
  | .inl f => (S', A.n, acD A S', A.f, A.im, A.T, 0, nI f)
  | .inr _ => (S', 0, A.ac, A.f, A.im, A.T, 0, -1)
noncomputable def lawR (A : AS) : Nat × Int32 := match prLaw A.T A.tl with
  | .inl _ => (1, 0)
  | .inr q => (0, nI q.2.2.length)
theorem LWR.st {E : LE} {L : LLn} {S : Nat → Int32} (h : LWR E L S) (hO : EOK E L) (h12 : L.length ≤ 12) (hE : E.length ≤ 400) : sn S 709 = L.length ∧ stS S = E.length := by
  have e := sn_nI h.2.1 (by omega)
  refine ⟨e, ?_⟩
  unfold stS
  rw [e]
  unfold EOK at hO
  by_cases c : L.length = 0
  · rw [if_pos c] at hO ⊢; exact hO
  · rw [if_neg c] at hO ⊢
    have g := (h.2.2.1 (L.length - 1) (by omega)).2.2.2
    rw [hO] at g
    exact sn_nI g (by omega)
theorem LWR.cw {E : LE} {L : LLn} {S : Nat → Int32} {s : Mg} (h : LWR E L S) (hO : EOK E L) (h12 : L.length ≤ 12) (hE : E.length ≤ 400) (hK : KOK L) (h1 : LCd E s) (h2 : LLd L s) : cwA 300 s S := by
  obtain ⟨e1, e2⟩ := h.st hO h12 hE
  unfold cwA
  rw [e1, e2, if_pos h.1]
  refine ⟨h2.1.trans h.2.1.symm, fun _ => ⟨fun n _ hn => ?_, fun i _ hi => ?_⟩⟩
  · obtain ⟨g1, g2, g3, g4⟩ := h.2.2.1 n hn
    obtain ⟨f1, f2, f3⟩ := h2.2 n hn
    have hk := hK n hn
    refine ⟨f1.trans g1.symm, f2.trans ?_, f3.trans g4.symm⟩
    rw [g1, g2]
    by_cases c : (L.getD n (0, 0, 0)).1 = 2
    · rw [if_pos c, if_pos (by rw [c]; rfl)]
    · rw [if_neg c, if_neg (show ¬ nI (L.getD n (0, 0, 0)).1 = 2 from fun e => c ((nI_eq (by omega) (by decide)).mp (show nI _ = nI 2 from e)))]
  · obtain ⟨g1, g2⟩ := h.2.2.2 i hi
    rw [g1, g2]
    exact h1.2 i hi
theorem cwL.low {l : Nat} {sg : Mg} {S S' : Nat → Int32} (h : cwL l sg S) (b : sn S 14 ≤ 100) (e : ∀ i, i < 709 → i ≠ 7 → S' i = S i) : cwL l sg S' := by
  unfold cwL at h ⊢
  have e14 : sn S' 14 = sn S 14 := by unfold sn; rw [e 14 (by decide) (by decide)]
  rw [e14, e 14 (by decide) (by decide), e 8 (by decide) (by decide), e 16 (by decide) (by decide), e 12 (by decide) (by decide), e 13 (by decide) (by decide)]
  refine ⟨fun v q hv hq => ?_, fun j k hj hk => ?_, fun k hk => ?_, fun j k hj hk => ?_, h.2.2.2.2.1, fun k j hk hj => ?_⟩
  · rw [e _ (by omega) (by omega)]; exact h.1 v q hv hq
  · rw [e _ (by omega) (by omega)]; exact h.2.1 j k hj hk
  · rw [e _ (by omega) (by omega)]; exact h.2.2.1 k hk
  · rw [e _ (by omega) (by omega)]; exact h.2.2.2.1 j k hj hk
  · rw [e _ (by omega) (by omega)]; exact h.2.2.2.2.2 k j hk hj
theorem cwD.low {w : Nat} {sg : Mg} {S S' : Nat → Int32} (h : cwD w sg S) (e : ∀ i, i < 709 → i ≠ 7 → S' i = S i) : cwD w sg S' := by
  unfold cwD at h ⊢
  rw [e 9 (by decide) (by decide), e 10 (by decide) (by decide), e 15 (by decide) (by decide), e 6 (by decide) (by decide), e 11 (by decide) (by decide)]
  refine ⟨fun k hk => ?_, fun k j hk hj => ?_, fun k j hk hj => ?_, fun k j hk hj => ?_, fun k j hk hj => ?_, h.2.2.2.2.2⟩
  · rw [e _ (by omega) (by omega)]; exact h.1 k hk
  · rw [e _ (by omega) (by omega)]; exact h.2.1 k j hk hj
  · rw [e _ (by omega) (by omega)]; exact h.2.2.1 k j hk hj
  · rw [e _ (by omega) (by omega)]; exact h.2.2.2.1 k j hk hj
  · rw [e _ (by omega) (by omega)]; exact h.2.2.2.2.1 k j hk hj
theorem cwA.dr {w : Nat} {sg : Mg} {S S' : Nat → Int32} (h : cwA w sg S) (hA : InvA S) (e : ∀ i, i < 1558 → S' i = S i) : cwA w sg S' := by
  unfold cwA at h ⊢
  rw [e 7 (by decide), e 709 (by decide)]
  refine ⟨h.1, fun h7 => ?_⟩
  have b := (hA h7).1.2
  have e9 : sn S' 709 = sn S 709 := by unfold sn; rw [e 709 (by decide)]
  have es : stS S' = stS S := by
    unfold stS
    rw [e9]
    by_cases c : sn S 709 = 0
    · rw [if_pos c, if_pos c]
    · rw [if_neg c, if_neg c]; unfold sn at b ⊢; rw [e _ (by omega)]
  rw [e9, es]
  refine ⟨fun n h1 h2 => ?_, fun i h1 h2 => ?_⟩
  · rw [e _ (by omega), e _ (by omega), e _ (by omega)]; exact (h.2 h7).1 n h1 h2
  · rw [e _ (by omega), e _ (by omega)]; exact (h.2 h7).2 i h1 h2
theorem RI.usq {B : Nat} {A : AS} (hI : RI B A) {q : Int32} : RI B (usQ A q) := by
  obtain ⟨a1, a2, a3, a4, a5, a6, a7, a8⟩ := hI
  exact ⟨a1, a2, a3, a4, a5, a6, Nat.zero_le _, fun i hi => absurd hi (Nat.not_lt_zero _)⟩
/-- the class holds nothing of the draft -/
theorem RC.dr {A : AS} {p : Nat → Nat} {sg : Mg} {B : Nat} (hI : RI B A) (hR : RC A p sg) {S' : Nat → Int32} (e : ∀ i, i < 1558 → S' i = A.S i) : RC (S', A.2) p sg :=
  ⟨hR.1, ⟨hR.2.1.1.low hI.1.b14 (fun i h _ => e i (by omega)), hR.2.1.2.1.low (fun i h _ => e i (by omega)), hR.2.1.2.2.dr hI.2.2.1 e⟩, hR.2.2⟩
theorem c_law {X : Nat × (Nat → Int32)} {d : Nat} {p : Nat → Nat} {sg : Mg} {B : Nat} {A : AS} {S' : Nat → Int32} (hI : RI B A) (hR : RC A p sg) (hS : LSP A S') : gF X (d + 20) 138 [vR 0] p sg (cR (lawA A S') (lawA A S') (fun _ => 0) (lawR A) sg) := by
  have ht := hI.2.2.2.2.2.2.1
  have n12 := hI.2.2.2.1
  refine g_in (cd := k_138) (nL := 1) (rc := 12) rfl (g_A (a := 0) (kd := 0) (n := 11) rfl (by decide)) (g_c1 rfl) ?_
  show gW X (d + 19) k_138 0 [some (vR 0)] [] p sg _
  refine g_pure 2 (i' := 2) (lv' := [some (vR 0)]) (st' := [vR 5]) rfl ?_
  refine g_calV rfl (args := [vR 5]) (rest := []) rfl rfl (Nat.zero_le _) (s_49 (d := d) (T := A.T) (tl := A.tl) ht hR.2.2.2.2.2.2.1 hR.2.2.2.2.2.2.2.1) (fun r hr => ?_)
  unfold LSP at hS
  unfold lawA lawR
  cases hP : prLaw A.T A.tl with
  | inl f =>
    rw [hP] at hr hS
    obtain ⟨s2, a1, a2, a3, rfl⟩ := hr
    refine gK_x (cR_x ?_ (fun c hc => a1 c (by omega) (by omega)) (c := 0) rfl rfl)
    have h := RC.dr (RI.usq hI) (hR.us hI (fun c c1 c2 => a1 c c1 (by omega)) a2 a3) hS
    exact ⟨h.1, h.2.1, h.2.2.1, fun i hi => (h.2.2.2.1 i hi).low (hI.2.2.2.2.1 i hi).1.b14 (fun j hj _ => if_pos (by omega)), h.2.2.2.2⟩
  | inr q =>
    rw [hP] at hr hS
    obtain ⟨s2, ⟨a1, a2, a3, a4, a5⟩, rfl⟩ := hr
    obtain ⟨hS, hW⟩ := hS
    obtain ⟨o1, o2, o3⟩ := prLaw_ok hP
    have w1 : cwA 300 s2 S' := hW.cw o1 o2 (by omega) (prLaw_K hP) a4 a5
    refine gK_0 ?_
    refine g_pure 6 (i' := 9) (lv' := [some (vR 0)]) (st' := [vR 308, vR 208]) rfl ?_
    refine g_cV0E (p' := p) rfl (args := [vR 208, vR 308]) (rest := []) rfl rfl rfl (s_40 (d := d + 15) (w := 200) (q := 300) (by unfold isWd; omega) (by unfold isWd; omega) (by decide)) (fun s4 hs4 => ?_)
    have w2 : cwA 200 s4 S' := hs4.2 S' w1
    have e5 : ∀ c, c ≠ 1 → (c < 208 ∨ (213 ≤ c ∧ c < 308) ∨ 313 ≤ c) → s4 c = sg c := fun c c1 c2 => by rw [hs4.1 c (by omega)]; exact a1 c c1 (by omega)
    have e6 : s4 1 = s2 1 := hs4.1 1 (by decide)
    refine g_pure 2 (i' := 12) (lv' := [some (vR 0)]) (st' := [vI 0, vR 0]) rfl ?_
    refine g_putI rfl (g_A (a := 0) (kd := 0) (n := 11) rfl (by decide)) ?_
    refine g_pure 3 (i' := 16) (lv' := [some (vR 0)]) (st' := [vR 208]) rfl ?_
    have h7 : mu s4 0 11 0 208 6 = nI q.2.2.length := by
      rw [mu_ne (by decide)]
      have := w2.1
      rw [if_pos hW.1, hW.2.1] at this
      exact this
    refine g_getI rfl (g_A (a := 208) (kd := 0) (n := 4) rfl (by decide)) (show _ = nI q.2.2.length from h7) ?_
    obtain ⟨r1, r2, r3, r4, r5, r6, r7, r8, r9, r10⟩ := hR
    refine g_iret rfl (cR_v ⟨r1, ⟨?_, ?_, ?_⟩, mu_self, fun i hi => absurd hi (Nat.not_lt_zero _), ?_, fun hf => (r6 hf).eqc (fun c c1 c2 c3 => ?_), ?_, fun i hi => absurd hi (Nat.not_lt_zero _), ?_, ?_⟩ (fun c hc => ?_) rfl)
    · exact (cwL.eqc (r2.1.low hI.1.b14 hS) (fun c c1 c2 => by rw [mu_ne (by omega), e5 c (by omega) (by omega)]))
    · exact (cwD.eqc (r2.2.1.low hS) (fun c c1 => by rw [mu_ne (by omega), e5 c (by omega) (by omega)]))
    · exact w2.eqx (m := []) (fun c c1 c2 => mu_ne (by omega))
    · rw [mu_idx (by decide), e5 0 (by decide) (by omega)]; exact r5
    · rw [mu_ne (by omega), e5 c (by omega) (by omega)]
    · rw [mu_ne (by decide), e6]; exact a2
    · rw [mu_ne (by decide), e6]; exact a3
    · rw [mu_ne (by decide), e5 23 (by decide) (by omega)]; exact r10
    · rw [mu_ne (by omega), e5 c (by omega) (by omega)]
