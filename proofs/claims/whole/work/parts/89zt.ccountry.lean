/-! COUNTRY: the call, in the class (made by wip/whole/gen89zt.py) -/
/-- how reading a text ends, in the class -/
def rdC (R : PRs) (sg : Mg) (p : Nat → Nat) (r : am_R) : Prop := match R with
  | .inl f => ∃ s, (∀ c, c ≠ 1 → (c < 300 ∨ 370 ≤ c ∨ (308 ≤ c ∧ c < 314)) → s c = sg c) ∧ s 1 1 = 0 ∧ s 1 5 = nI f ∧ r = gRx p s 0
  | .inr q => ∃ s, ((∀ c, c ≠ 1 → (c < 300 ∨ 370 ≤ c ∨ (308 ≤ c ∧ c < 314)) → s c = sg c) ∧ s 1 1 = 0 ∧ s 1 5 = -1 ∧ cwL 350 s q.2 ∧ cwD 300 s q.2) ∧ r = gR0 p s
theorem s_8 {X : Nat × (Nat → Int32)} {d : Nat} {p : Nat → Nat} {sg : Mg} {B : Nat} {S T : Nat → Int32} {tl : Nat} (hI : Inv B S) (hStr : Str S) (hL : cwL 350 sg S) (hD : cwD 300 sg S) (ht : tl ≤ 400) (h1 : sg 1 1 = nI tl) (h2 : ∀ i, i < tl → sg 2 i = T i) : gF X (d + 8) 8 [vR 4] p sg (rdC (prAll T tl S) sg p) := by
  refine g_in (cd := k_8) (nL := 2) (rc := 2) rfl (g_A (a := 4) (kd := 0) (n := 1) rfl (by decide)) (g_c1 rfl) ?_
  show gW X (d + 7) k_8 0 [some (vR 4), none] [] p sg _
  refine g_pure 2 (i' := 2) (lv' := [some (vR 4), none]) (st' := [vR 1]) rfl ?_
  refine g_cV0E (p' := p) rfl (args := [vR 1]) (rest := []) rfl rfl rfl (s_68 (d := d + 4) ht h1 h2) (fun s hs => ?_)
  have hL' : cwL 350 s S := hL.eqc (fun c c1 c2 => hs.1 c (by omega))
  have hD' : cwD 300 s S := hD.eqc (fun c c1 => hs.1 c (by omega))
  refine g_pure 4 (i' := 7) (lv' := [some (vR 4), some (vI (nI 0))]) (st' := [vI (nI 14), vI (nI 0)]) rfl ?_
  refine g_if2 (i' := 28) (P := False) rfl rfl ⟨fun h => absurd (show (nI 14 : Int32) < nI 0 from h) (by decide), False.elim⟩ False.elim (fun _ => ?_)
  refine g_pure 4 (i' := 12) (lv' := [some (vR 4), some (vI (nI 0))]) (st' := [vI (nI 14), vI (nI 0), vR 1]) rfl ?_
  refine g_calV rfl (args := [vR 1, vI (nI 0), vI (nI 14)]) (rest := []) rfl rfl (Nat.zero_le _) (s_71 (d := d + 4) hs.2.1 (by omega) (by omega)) (fun r hr => ?_)
  unfold prAll
  rcases hr with ⟨c1, rfl⟩ | ⟨c1, c2, rfl⟩ | ⟨c1, c2, c3, s2, hs2, rfl⟩ | ⟨c1, c2, c3, c4, s2, hs2, rfl⟩ | ⟨c1, c2, c3, c4, s2, hs2, rfl⟩
  · refine gK_v ?_
    refine g_if1 (i' := 28) (P := True) rfl rfl cd_eq0 (fun _ => ?_) (fun h => absurd trivial h)
    rw [sel_t c1]
    exact g_vret rfl ⟨s, ⟨fun c h _ => hs.1 c h, hs.2.2.1, hs.2.2.2, hL', hD'⟩, rfl⟩
  · refine gK_v ?_
    refine g_if1 (i' := 28) (P := False) rfl rfl cd_eq1 False.elim (fun _ => ?_)
    rw [sel_f c1]
    have := w_8 (X := X) (d := d) (p := p) 13 0 0 S s rfl hI hStr hL' hD' hs.2.1 (FRc.rf s) c1
    obtain ⟨r, g1, g2⟩ := this
    refine ⟨r, g1, ?_⟩
    have g2 : lnC (raC T tl 14 0 S) T tl s p r := g2
    cases hR : raC T tl 14 0 S with
    | inl f =>
      rw [hR] at g2
      obtain ⟨s9, a1, a2, a3, a4⟩ := g2
      exact ⟨s9, fun c h1 h2 => (a1 c h1 h2).trans (hs.1 c h1), a2.trans hs.2.2.1, a3, a4⟩
    | inr q =>
      rw [hR] at g2
      obtain ⟨s9, ⟨a1, a2, a3, a4⟩, a5⟩ := g2
      exact ⟨s9, ⟨fun c h1 h2 => (a1.1 c h1 h2).trans (hs.1 c h1), (a1.2 1 (by decide) (by decide) (by decide)).trans hs.2.2.1, (a1.2 5 (by decide) (by decide) (by decide)).trans hs.2.2.2, a3, a4⟩, a5⟩
  · exact absurd rfl c2
  · exact absurd rfl c2
  · exact absurd rfl c2
/-- the tape is used up, and this is its fault -/
def usQ (A : AS) (q : Int32) : AS := (A.S, A.n, A.ac, A.f, A.im, A.T, 0, q)
/-- a text of the country: what is left if it throws, what is if it doesn't, what it answers -/
noncomputable def couF (A : AS) : AS := match prAll A.T A.tl A.S with
  | .inl f => usQ A (nI f)
  | .inr _ => usQ A (-1)
noncomputable def couS (A : AS) : AS := match prAll A.T A.tl A.S with
  | .inl _ => A
  | .inr q => (upd q.2 6 (nI (sn A.S 6 + 1)), 0, A.ac, A.f, A.im, A.T, 0, -1)
noncomputable def couR (A : AS) : Nat × Int32 := match prAll A.T A.tl A.S with
  | .inl _ => (1, 0)
  | .inr _ => if 12 ≤ sn A.S 6 then (2, 0) else (0, nI (sn A.S 6 + 1))
theorem RC.us {A : AS} {p : Nat → Nat} {sg s : Mg} {B : Nat} (hI : RI B A) (hR : RC A p sg) (h1 : ∀ c, c ≠ 1 → (c < 300 ∨ 370 ≤ c) → s c = sg c) (h2 : s 1 1 = 0) {q : Int32} (h3 : s 1 5 = q) : RC (usQ A q) p s := by
  obtain ⟨r1, r2, r3, r4, r5, r6, r7, r8, r9, r10⟩ := hR
  have n12 := hI.2.2.2.1
  refine ⟨r1, r2.eqc (fun c c1 c2 c3 => h1 c (by omega) (by omega)), ?_, fun i hi => ?_, ?_, fun hf => (r6 hf).eqc (fun c c1 c2 c3 => h1 c (by omega) (by omega)), h2, fun i hi => absurd hi (Nat.not_lt_zero _), h3, ?_⟩
  · rw [h1 0 (by omega) (by omega)]; exact r3
  · have hi : i < A.n := hi
    have := r1.1 i (by omega)
    exact cwL.eqc (r4 i hi) (fun c c1 c2 => h1 c (by omega) (by omega))
  · rw [h1 0 (by omega) (by omega)]; exact r5
  · rw [h1 23 (by omega) (by omega)]; exact r10
theorem c_country {X : Nat × (Nat → Int32)} {d : Nat} {p : Nat → Nat} {sg : Mg} {B : Nat} {A : AS} (hI : RI B A) (hR : RC A p sg) : gF X (d + 9) 137 [vR 0] p sg (cR (couF A) (couS A) (fun c => c - 1) (couR A) sg) := by
  have ht := hI.2.2.2.2.2.2.1
  have b6 := hI.1.b6
  have b14 := hI.1.b14
  refine g_in (cd := k_137) (nL := 1) (rc := 12) rfl (g_A (a := 0) (kd := 0) (n := 11) rfl (by decide)) (g_c1 rfl) ?_
  show gW X (d + 8) k_137 0 [some (vR 0)] [] p sg _
  refine g_pure 4 (i' := 4) (lv' := [some (vR 0)]) (st' := [vR 200, vR 300]) rfl ?_
  refine g_cV0E (p' := p) rfl (args := [vR 300, vR 200]) (rest := []) rfl rfl rfl (s_106 (d := d + 3) (w := 300) (q := 200) (by unfold isWd; omega) (by unfold isWd; omega) (by decide)) (fun s hs => ?_)
  have hW := hs.2 A.S b14 hR.2.1
  have e1 : ∀ c, c < 300 ∨ 370 ≤ c → s c = sg c := fun c hc => hs.1 c (by omega)
  refine g_pure 2 (i' := 7) (lv' := [some (vR 0)]) (st' := [vR 4]) rfl ?_
  refine g_calV rfl (args := [vR 4]) (rest := []) rfl rfl (Nat.zero_le _) (s_8 (d := d) (T := A.T) (tl := A.tl) hI.1 hI.2.1 hW.1 hW.2.1 ht (by rw [e1 1 (by decide)]; exact hR.2.2.2.2.2.2.1) (fun i hi => by rw [e1 2 (by decide)]; exact hR.2.2.2.2.2.2.2.1 i hi)) (fun r hr => ?_)
  unfold couF couS couR
  cases hP : prAll A.T A.tl A.S with
  | inl f =>
    rw [hP] at hr
    obtain ⟨s2, a1, a2, a3, rfl⟩ := hr
    refine gK_x (cR_x (hR.us hI (fun c c1 c2 => (a1 c c1 (by omega)).trans (e1 c c2)) a2 a3) (fun c hc => (a1 c (by omega) (by omega)).trans (e1 c (by omega))) (c := 0) rfl rfl)
  | inr q =>
    rw [hP] at hr
    obtain ⟨s2, ⟨a1, a2, a3, a4, a5⟩, rfl⟩ := hr
    have hok : OKS B A.S q.2 := prAll_ok hI.1 hI.2.1 hP
    have e2 : ∀ c, c ≠ 1 → (c < 300 ∨ 370 ≤ c) → s2 c = sg c := fun c c1 c2 => (a1 c c1 (by omega)).trans (e1 c c2)
    have h6 : s2 202 8 = nI (sn A.S 6) := by rw [e2 202 (by decide) (by decide)]; exact hR.2.1.2.1.f8.trans hI.1.c6
    have h36 : s2 302 8 = nI (sn A.S 6) := a5.f8.trans (hok.2.2.1.trans hI.1.c6)
    refine gK_0 ?_
    refine g_pure 3 (i' := 11) (lv' := [some (vR 0)]) (st' := [vR 202]) rfl ?_
    refine g_getI rfl (g_A (a := 202) (kd := 0) (n := 3) rfl (by decide)) (show _ = nI (sn A.S 6) from h6) ?_
    refine g_pure 1 (i' := 13) (lv' := [some (vR 0)]) (st' := [vI (nI 12), vI (nI (sn A.S 6))]) rfl ?_
    refine g_if2 (i' := 19) (P := sn A.S 6 < 12) rfl rfl (g_ltN rfl rfl (by omega) (by decide)) (fun hlt => ?_) (fun hge => ?_)
    rotate_left
    · refine g_thr' rfl rfl (cR_x (hR.us hI (fun c c1 c2 => e2 c c1 c2) a2 a3) (fun c hc => e2 c (by omega) (by omega)) (c := 1) ?_ rfl)
      show (if 12 ≤ sn A.S 6 then ((2, 0) : Nat × Int32) else _).1 = 2
      rw [if_pos (by omega)]
    · refine g_pure 4 (i' := 23) (lv' := [some (vR 0)]) (st' := [vR 302, vR 302]) rfl ?_
      refine g_getI rfl (g_A (a := 302) (kd := 0) (n := 3) rfl (by decide)) (show _ = nI (sn A.S 6) from h36) ?_
      refine g_pure 2 (i' := 26) (lv' := [some (vR 0)]) (st' := [vI (nI (sn A.S 6) + 1), vR 302]) rfl ?_
      refine g_putI rfl (g_A (a := 302) (kd := 0) (n := 3) rfl (by decide)) ?_
      rw [show nI (sn A.S 6) + 1 = nI (sn A.S 6 + 1) from nI_add (sn A.S 6) 1]
      have w1 : cwL 350 (mu s2 302 8 (nI (sn A.S 6 + 1))) (upd q.2 6 (nI (sn A.S 6 + 1))) := a4.land (by omega) (by unfold noLand; omega)
      have w2 : cwD 300 (mu s2 302 8 (nI (sn A.S 6 + 1))) (upd q.2 6 (nI (sn A.S 6 + 1))) := a5.wfl (by decide)
      have w3 : cwA 300 (mu s2 302 8 (nI (sn A.S 6 + 1))) (upd q.2 6 (nI (sn A.S 6 + 1))) := by
        refine (hW.2.2.eqx (m := []) (fun c c1 c2 => ?_)).ext (fun i hi => ?_)
        · rw [mu_ne (by omega)]; exact a1 c (by omega) (by omega)
        · rw [upd_ne (by omega)]
          rcases hi with h | h
          · rw [h]; exact hok.2.2.2.1
          · exact hok.2.2.2.2 i h
      have e3 : ∀ c, c ≠ 1 → (c < 300 ∨ 370 ≤ c) → mu s2 302 8 (nI (sn A.S 6 + 1)) c = sg c := fun c c1 c2 => by rw [mu_ne (by omega)]; exact e2 c c1 c2
      have e4 : mu s2 302 8 (nI (sn A.S 6 + 1)) 1 = s2 1 := mu_ne (by decide)
      generalize mu s2 302 8 (nI (sn A.S 6 + 1)) = s3 at w1 w2 w3 e3 e4
      refine g_pure 4 (i' := 31) (lv' := [some (vR 0)]) (st' := [vR 300, vR 200]) rfl ?_
      have s14 : sn (upd q.2 6 (nI (sn A.S 6 + 1))) 14 ≤ 100 := by rw [sn_upd (by decide)]; exact hok.1.b14
      refine g_cV0E (p' := p) rfl (args := [vR 200, vR 300]) (rest := []) rfl rfl rfl (s_106 (d := d + 3) (w := 200) (q := 300) (by unfold isWd; omega) (by unfold isWd; omega) (by decide)) (fun s4 hs4 => ?_)
      have hW4 := hs4.2 _ s14 ⟨w1, w2, w3⟩
      have e5 : ∀ c, c ≠ 1 → (c < 200 ∨ (270 ≤ c ∧ c < 300) ∨ 370 ≤ c) → s4 c = sg c := fun c c1 c2 => by rw [hs4.1 c (by omega)]; exact e3 c c1 (by omega)
      have e6 : s4 1 = s2 1 := (hs4.1 1 (by omega)).trans e4
      refine g_pure 2 (i' := 34) (lv' := [some (vR 0)]) (st' := [vI 0, vR 0]) rfl ?_
      refine g_putI rfl (g_A (a := 0) (kd := 0) (n := 11) rfl (by decide)) ?_
      refine g_pure 3 (i' := 38) (lv' := [some (vR 0)]) (st' := [vR 202]) rfl ?_
      have h7 : mu s4 0 11 0 202 8 = nI (sn A.S 6 + 1) := by rw [mu_ne (by decide)]; exact hW4.2.1.f8.trans upd_self
      refine g_getI rfl (g_A (a := 202) (kd := 0) (n := 3) rfl (by decide)) (show _ = nI (sn A.S 6 + 1) from h7) ?_
      obtain ⟨r1, r2, r3, r4, r5, r6, r7, r8, r9, r10⟩ := hR
      refine g_iret rfl (cR_v ⟨r1, hW4.eqc (fun c c1 c2 c3 => mu_ne (by omega)), mu_self, fun i hi => absurd hi (Nat.not_lt_zero _), ?_, fun hf => (r6 hf).eqc (fun c c1 c2 c3 => ?_), ?_, fun i hi => absurd hi (Nat.not_lt_zero _), ?_, ?_⟩ (fun c hc => ?_) ?_)
      · rw [mu_idx (by decide), e5 0 (by decide) (by omega)]; exact r5
      · rw [mu_ne (by omega), e5 c (by omega) (by omega)]
      · rw [mu_ne (by decide), e6]; exact a2
      · rw [mu_ne (by decide), e6]; exact a3
      · rw [mu_ne (by decide), e5 23 (by decide) (by omega)]; exact r10
      · rw [mu_ne (by omega), e5 c (by omega) (by omega)]
      · show (if 12 ≤ sn A.S 6 then ((2, 0) : Nat × Int32) else _) = _
        rw [if_neg (by omega)]
