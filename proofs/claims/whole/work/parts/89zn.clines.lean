/-! COUNTRY: the lines, in the class (made by wip/whole/gen89zn.py) -/
theorem b_109s_0 {X : Nat × (Nat → Int32)} {d : Nat} {p : Nat → Nat} {sg : Mg} {Q : am_R → Prop} {B : Nat} {S : Nat → Int32} (hI : Inv B S) (hL : cwL 350 sg S) (hD : cwD 300 sg S) {v : Nat} {e : Nat} (u_v : v ≤ 5) (u_e : e ≤ 15) (q1 : v < sn S 0)
    (o1 : gW X (d) k_109 2 [some (vR 300), some (vI (nI v)), some (vI (nI e)), some (vI 0)] [] p sg Q) :
    gW X (d) k_109 0 [some (vR 300), some (vI (nI v)), some (vI (nI e)), none] [] p sg Q := by
  have b0 := hI.b0; have b1 := hI.b1; have b2 := hI.b2; have b3 := hI.b3; have b4 := hI.b4; have b5 := hI.b5; have b6 := hI.b6; have b7 := hI.b7; have b8 := hI.b8; have b9 := hI.b9; have b14 := hI.b14
  refine g_pure 2 (i' := 2) (lv' := [some (vR 300), some (vI (nI v)), some (vI (nI e)), some (vI 0)]) (st' := []) rfl ?_
  exact o1

theorem b_109s_2 {X : Nat × (Nat → Int32)} {d : Nat} {p : Nat → Nat} {sg : Mg} {Q : am_R → Prop} {B : Nat} {S : Nat → Int32} (hI : Inv B S) (hL : cwL 350 sg S) (hD : cwD 300 sg S) {v : Nat} {e : Nat} {k : Nat} (u_v : v ≤ 5) (u_e : e ≤ 15) (u_k : k ≤ 16) (q1 : v < sn S 0)
    (o1 : (sn S 9 ≤ k) → Q (gRv p sg (-1)))
    (o2 : (¬ (sn S 9 ≤ k)) → (¬ sn S (17 + 16 * v + k) = e) → gW X (d) k_109 2 [some (vR 300), some (vI (nI v)), some (vI (nI e)), some (vI (nI (k + 1)))] [] p sg Q)
    (o3 : (¬ (sn S 9 ≤ k)) → (sn S (17 + 16 * v + k) = e) → Q (gRv p sg (nI k))) :
    gW X (d) k_109 2 [some (vR 300), some (vI (nI v)), some (vI (nI e)), some (vI (nI k))] [] p sg Q := by
  have b0 := hI.b0; have b1 := hI.b1; have b2 := hI.b2; have b3 := hI.b3; have b4 := hI.b4; have b5 := hI.b5; have b6 := hI.b6; have b7 := hI.b7; have b8 := hI.b8; have b9 := hI.b9; have b14 := hI.b14
  refine g_pure 3 (i' := 5) (lv' := [some (vR 300), some (vI (nI v)), some (vI (nI e)), some (vI (nI k))]) (st' := [vR 302, vI (nI k)]) rfl ?_
  refine g_getI rfl (g_A (a := 302) (kd := 0) (n := 3) rfl (by decide)) (show _ = S 9 from hD.f5) ?_
  refine g_if2 (i' := 20) (P := sn S 9 ≤ k) rfl rfl (g_geN (show nI k = nI k from (rfl : nI k = nI k)) (show S 9 = nI (sn S 9) from (hI.c9)) (by omega) (by omega)) (fun h1 => ?_) (fun h1 => ?_)
  · refine g_pure 1 (i' := 21) (lv' := [some (vR 300), some (vI (nI v)), some (vI (nI e)), some (vI (nI k))]) (st' := [vI (-1)]) rfl ?_
    refine g_iret rfl ?_
    exact o1 h1
  · refine g_pure 4 (i' := 11) (lv' := [some (vR 300), some (vI (nI v)), some (vI (nI e)), some (vI (nI k))]) (st' := [vI (nI v), vR 351]) rfl ?_
    refine g_aald rfl (Or.inl rfl) (g_A (a := 351) (kd := 5) (n := 6) rfl (by decide)) (by decide) (show nI v = nI v from (rfl : nI v = nI v)) (by omega) (gR_351 (by omega)) ?_
    refine g_pure 1 (i' := 13) (lv' := [some (vR 300), some (vI (nI v)), some (vI (nI e)), some (vI (nI k))]) (st' := [vI (nI k), vR (362 + v)]) rfl ?_
    refine g_ald rfl (gA_351 (by omega)) (by decide) (show nI k = nI k from (rfl : nI k = nI k)) (by omega) (show _ = S (17 + 16 * v + k) from (hL.tab (by omega) (by omega))) ?_
    refine g_pure 1 (i' := 15) (lv' := [some (vR 300), some (vI (nI v)), some (vI (nI e)), some (vI (nI k))]) (st' := [vI (nI e), vI (S (17 + 16 * v + k))]) rfl ?_
    have t2 := hI.tbb (v := v) (q := k) (by omega) (by omega)
    refine g_if2 (i' := 18) (P := ¬ sn S (17 + 16 * v + k) = e) rfl rfl (g_neN (show S (17 + 16 * v + k) = nI (sn S (17 + 16 * v + k)) from (hI.tb (by omega) (by omega))) (show nI e = nI e from (rfl : nI e = nI e)) (by omega) (by omega)) (fun h3 => ?_) (fun h3 => ?_)
    · refine g_pure 2 (i' := 2) (lv' := [some (vR 300), some (vI (nI v)), some (vI (nI e)), some (vI (nI k + 1))]) (st' := []) rfl ?_
      refine gW_eq (lv' := [some (vR 300), some (vI (nI v)), some (vI (nI e)), some (vI (nI (k + 1)))]) (st' := []) (by rw [(show (nI k + 1) = nI (k + 1) from ((g_add (rfl : nI k = nI k) (show (1 : Int32) = nI 1 from rfl))).trans (congrArg nI (by omega)))]) rfl rfl ?_
      exact o2 h1 h3
    · have h3 := Classical.not_not.mp h3
      refine g_pure 1 (i' := 17) (lv' := [some (vR 300), some (vI (nI v)), some (vI (nI e)), some (vI (nI k))]) (st' := [vI (nI k)]) rfl ?_
      refine g_iret rfl ?_
      exact o3 h1 h3

theorem b_56s_0 {X : Nat × (Nat → Int32)} {d : Nat} {p : Nat → Nat} {sg : Mg} {Q : am_R → Prop} {B : Nat} {S : Nat → Int32} (hI : Inv B S) (hL : cwL 350 sg S) (hD : cwD 300 sg S) {v : Nat} {a : Nat} {b : Nat} (u_v : v ≤ 5) (u_a : a ≤ 15) (u_b : b ≤ 15)
    (o1 : ∀ s1 : Mg, s1 = mu sg (362 + v) a (S (17 + 16 * v + b)) → ∀ s2 : Mg, s2 = mu s1 (362 + v) b (S (17 + 16 * v + a)) → cwL 350 s2 (upd (upd S (17 + 16 * v + a) (S (17 + 16 * v + b))) (17 + 16 * v + b) (S (17 + 16 * v + a))) → cwD 300 s2 (upd (upd S (17 + 16 * v + a) (S (17 + 16 * v + b))) (17 + 16 * v + b) (S (17 + 16 * v + a))) → Q (gR0 p s2)) :
    gW X (d) k_56 0 [some (vR 350), some (vI (nI v)), some (vI (nI a)), some (vI (nI b)), none, none] [] p sg Q := by
  have b0 := hI.b0; have b1 := hI.b1; have b2 := hI.b2; have b3 := hI.b3; have b4 := hI.b4; have b5 := hI.b5; have b6 := hI.b6; have b7 := hI.b7; have b8 := hI.b8; have b9 := hI.b9; have b14 := hI.b14
  refine g_pure 3 (i' := 3) (lv' := [some (vR 350), some (vI (nI v)), some (vI (nI a)), some (vI (nI b)), none, none]) (st' := [vI (nI v), vR 351]) rfl ?_
  refine g_aald rfl (Or.inl rfl) (g_A (a := 351) (kd := 5) (n := 6) rfl (by decide)) (by decide) (show nI v = nI v from (rfl : nI v = nI v)) (by omega) (gR_351 (by omega)) ?_
  refine g_pure 3 (i' := 7) (lv' := [some (vR 350), some (vI (nI v)), some (vI (nI a)), some (vI (nI b)), some (vR (362 + v)), none]) (st' := [vI (nI a), vR (362 + v)]) rfl ?_
  refine g_ald rfl (gA_351 (by omega)) (by decide) (show nI a = nI a from (rfl : nI a = nI a)) (by omega) (show _ = S (17 + 16 * v + a) from (hL.tab (by omega) (by omega))) ?_
  refine g_pure 5 (i' := 13) (lv' := [some (vR 350), some (vI (nI v)), some (vI (nI a)), some (vI (nI b)), some (vR (362 + v)), some (vI (S (17 + 16 * v + a)))]) (st' := [vI (nI b), vR (362 + v), vI (nI a), vR (362 + v)]) rfl ?_
  refine g_ald rfl (gA_351 (by omega)) (by decide) (show nI b = nI b from (rfl : nI b = nI b)) (by omega) (show _ = S (17 + 16 * v + b) from (hL.tab (by omega) (by omega))) ?_
  refine g_ast rfl (gA_351 (by omega)) (by decide) (show nI a = nI a from (rfl : nI a = nI a)) (by omega) ?_
  refine g_setv (fun s1 es1 => ?_)
  have hLs1 : cwL 350 s1 (upd S (17 + 16 * v + a) (S (17 + 16 * v + b))) := by rw [es1]; exact hL.wtab (by omega) (by omega)
  have hDs1 : cwD 300 s1 (upd S (17 + 16 * v + a) (S (17 + 16 * v + b))) := by rw [es1]; exact hD.life (by omega) (by unfold noLand; omega)
  refine g_pure 3 (i' := 18) (lv' := [some (vR 350), some (vI (nI v)), some (vI (nI a)), some (vI (nI b)), some (vR (362 + v)), some (vI (S (17 + 16 * v + a)))]) (st' := [vI (S (17 + 16 * v + a)), vI (nI b), vR (362 + v)]) rfl ?_
  refine g_ast rfl (gA_351 (by omega)) (by decide) (show nI b = nI b from (rfl : nI b = nI b)) (by omega) ?_
  refine g_setv (fun s2 es2 => ?_)
  have hLs2 : cwL 350 s2 (upd (upd S (17 + 16 * v + a) (S (17 + 16 * v + b))) (17 + 16 * v + b) (S (17 + 16 * v + a))) := by rw [es2]; exact hLs1.wtab (by omega) (by omega)
  have hDs2 : cwD 300 s2 (upd (upd S (17 + 16 * v + a) (S (17 + 16 * v + b))) (17 + 16 * v + b) (S (17 + 16 * v + a))) := by rw [es2]; exact hDs1.life (by omega) (by unfold noLand; omega)
  refine g_vret rfl ?_
  exact o1 s1 es1 s2 es2 hLs2 hDs2

noncomputable def sel {α : Type} (P : Prop) (a b : α) : α := @ite α P (Classical.propDecidable P) a b
theorem sel_t {α : Type} {P : Prop} {a b : α} (h : P) : sel P a b = a := @if_pos P (Classical.propDecidable P) h α a b
theorem sel_f {α : Type} {P : Prop} {a b : α} (h : ¬ P) : sel P a b = b := @if_neg P (Classical.propDecidable P) h α a b
theorem s_109s {X : Nat × (Nat → Int32)} {d : Nat} {p : Nat → Nat} {sg : Mg} {B : Nat} {S : Nat → Int32} (hI : Inv B S) (hL : cwL 350 sg S) (hD : cwD 300 sg S) {v e : Nat} (hv : v < sn S 0) (he : e < sn S 9) : gF X (d + 1) 109 [vR 300, vI (nI v), vI (nI e)] p sg (fun r => r = gRv p sg (nI (pgf S v e))) := by
  have b0 := hI.b0
  have b9 := hI.b9
  obtain ⟨f1, f2, f3⟩ := pgf_ok hI hv he
  refine g_in (cd := k_109) (nL := 4) (rc := 11) rfl (g_A (a := 300) (kd := 0) (n := 10) rfl (by decide)) (g_c1 rfl) (b_109s_0 hI hL hD (by omega) (by omega) hv ?_)
  refine g_down (P := fun k => gW X d k_109 2 [some (vR 300), some (vI (nI v)), some (vI (nI e)), some (vI (nI k))] [] p sg _) (n := pgf S v e) (fun k hk ih => ?_) ?_
  · exact b_109s_2 hI hL hD (by omega) (by omega) (by omega) hv (fun h => by omega) (fun _ _ => ih) (fun _ h => by have := f3 k (by omega) h; omega)
  · exact b_109s_2 hI hL hD (by omega) (by omega) (by omega) hv (fun h => by omega) (fun _ h => absurd f2 h) (fun _ _ => rfl)
theorem s_56s {X : Nat × (Nat → Int32)} {d : Nat} {p : Nat → Nat} {sg : Mg} {B : Nat} {S : Nat → Int32} (hI : Inv B S) (hL : cwL 350 sg S) (hD : cwD 300 sg S) {v a b : Nat} (hv : v ≤ 5) (ha : a ≤ 15) (hb : b ≤ 15) : gF X (d + 1) 56 [vR 350, vI (nI v), vI (nI a), vI (nI b)] p sg (fun r => ∃ s, ((∀ c, c < 362 ∨ 368 ≤ c → s c = sg c) ∧ cwL 350 s (swS S v a b) ∧ cwD 300 s (swS S v a b)) ∧ r = gR0 p s) :=
  g_in (cd := k_56) (nL := 6) (rc := 7) rfl (g_A (a := 350) (kd := 0) (n := 6) rfl (by decide)) (g_c1 rfl) (b_56s_0 hI hL hD hv ha hb (fun s1 e1 s2 e2 h1 h2 => ⟨s2, ⟨fun c hc => by rw [e2, mu_ne (by omega), e1, mu_ne (by omega)], h1, h2⟩, rfl⟩))
abbrev PRs : Type := Nat ⊕ (Nat × (Nat → Int32))
/-- how a line ends in the class -/
def lnC (R : PRs) (T : Nat → Int32) (n : Nat) (sg : Mg) (p : Nat → Nat) (r : am_R) : Prop := match R with
  | .inl f => LF f sg p r
  | .inr q => ∃ s, (FRc sg s ∧ CT T n q.1 s ∧ cwL 350 s q.2 ∧ cwD 300 s q.2) ∧ r = gR0 p s

theorem b_14_0 {X : Nat × (Nat → Int32)} {d : Nat} {p : Nat → Nat} {sg : Mg} {Q : am_R → Prop} {B : Nat} {S : Nat → Int32} (hI : Inv B S) (hL : cwL 350 sg S) (hD : cwD 300 sg S) {T : Nat → Int32} {tn tk : Nat} (hT : CT T tn tk sg) {sg0 : Mg} (hF : FRc sg0 sg)
    (o1 : (sn S 1 < 8) → ∀ s2 : Mg, (CT T tn (nxK T tn tk) s2 ∧ CN sg s2) → (tkP T tn (nxK T tn tk) 4 0 (sn S 0)) → ∀ s4 : Mg, (CT T tn (nxK T tn (nxK T tn tk)) s4 ∧ CN s2 s4) → ∀ s6 : Mg, s6 = mu s4 352 (sn S 1) (nI (numK T tn (nxK T tn tk))) → ∀ s7 : Mg, s7 = mu s6 353 (sn S 1) (-1) → ∀ s8 : Mg, s8 = mu s7 354 (sn S 1) (-1) → (tkP T tn (nxK T tn (nxK T tn tk)) 4 0 10000) → ∀ s10 : Mg, (CT T tn (nxK T tn (nxK T tn (nxK T tn tk))) s10 ∧ CN s8 s10) → ∀ s12 : Mg, s12 = mu s10 355 (sn S 1) (nI (numK T tn (nxK T tn (nxK T tn tk)))) → ∀ s13 : Mg, s13 = mu s12 356 (sn S 1) 0 → ∀ s14 : Mg, s14 = mu s13 357 (sn S 1) 0 → ∀ s15 : Mg, s15 = mu s14 302 9 (S 11 + nI (numK T tn (nxK T tn (nxK T tn tk)))) → ∀ s16 : Mg, s16 = mu s15 303 1 (nI (sn S 1 + 1)) → CT T tn (nxK T tn (nxK T tn (nxK T tn tk))) s16 → FRc sg0 s16 → cwL 350 s16 (upd (upd (upd (upd (upd (upd (upd (upd S (113 + 6 * (sn S 1)) (nI (numK T tn (nxK T tn tk)))) (113 + 6 * (sn S 1) + 1) (-1)) (113 + 6 * (sn S 1) + 2) (-1)) (113 + 6 * (sn S 1) + 3) (nI (numK T tn (nxK T tn (nxK T tn tk))))) (113 + 6 * (sn S 1) + 4) 0) (113 + 6 * (sn S 1) + 5) 0) 11 (S 11 + nI (numK T tn (nxK T tn (nxK T tn tk))))) 1 (nI (sn S 1 + 1))) → cwD 300 s16 (upd (upd (upd (upd (upd (upd (upd (upd S (113 + 6 * (sn S 1)) (nI (numK T tn (nxK T tn tk)))) (113 + 6 * (sn S 1) + 1) (-1)) (113 + 6 * (sn S 1) + 2) (-1)) (113 + 6 * (sn S 1) + 3) (nI (numK T tn (nxK T tn (nxK T tn tk))))) (113 + 6 * (sn S 1) + 4) 0) (113 + 6 * (sn S 1) + 5) 0) 11 (S 11 + nI (numK T tn (nxK T tn (nxK T tn tk))))) 1 (nI (sn S 1 + 1))) → Q (gR0 p s16))
    (o2 : (sn S 1 < 8) → ∀ s2 : Mg, (CT T tn (nxK T tn tk) s2 ∧ CN sg s2) → (tkP T tn (nxK T tn tk) 4 0 (sn S 0)) → ∀ s4 : Mg, (CT T tn (nxK T tn (nxK T tn tk)) s4 ∧ CN s2 s4) → ∀ s6 : Mg, s6 = mu s4 352 (sn S 1) (nI (numK T tn (nxK T tn tk))) → ∀ s7 : Mg, s7 = mu s6 353 (sn S 1) (-1) → ∀ s8 : Mg, s8 = mu s7 354 (sn S 1) (-1) → (¬ tkP T tn (nxK T tn (nxK T tn tk)) 4 0 10000) → ∀ s17 : Mg, (CF (spK T tn (nxK T tn (nxK T tn tk))) s8 s17) → CT T tn (nxK T tn (nxK T tn tk)) s8 → FRc sg0 s8 → cwL 350 s8 (upd (upd (upd S (113 + 6 * (sn S 1)) (nI (numK T tn (nxK T tn tk)))) (113 + 6 * (sn S 1) + 1) (-1)) (113 + 6 * (sn S 1) + 2) (-1)) → cwD 300 s8 (upd (upd (upd S (113 + 6 * (sn S 1)) (nI (numK T tn (nxK T tn tk)))) (113 + 6 * (sn S 1) + 1) (-1)) (113 + 6 * (sn S 1) + 2) (-1)) → Q (gRx p s17 0))
    (o3 : (sn S 1 < 8) → ∀ s2 : Mg, (CT T tn (nxK T tn tk) s2 ∧ CN sg s2) → (¬ tkP T tn (nxK T tn tk) 4 0 (sn S 0)) → ∀ s18 : Mg, (CF (spK T tn (nxK T tn tk)) s2 s18) → CT T tn (nxK T tn tk) s2 → FRc sg0 s2 → cwL 350 s2 S → cwD 300 s2 S → Q (gRx p s18 0))
    (o4 : (¬ (sn S 1 < 8)) → ∀ s19 : Mg, (CF (spK T tn tk) sg s19) → CT T tn tk sg → FRc sg0 sg → cwL 350 sg S → cwD 300 sg S → Q (gRx p s19 0)) :
    gW X (d + 4) k_14 0 [some (vR 4), none] [] p sg Q := by
  have b0 := hI.b0; have b1 := hI.b1; have b2 := hI.b2; have b3 := hI.b3; have b4 := hI.b4; have b5 := hI.b5; have b6 := hI.b6; have b7 := hI.b7; have b8 := hI.b8; have b9 := hI.b9; have b14 := hI.b14
  refine g_pure 3 (i' := 3) (lv' := [some (vR 4), none]) (st' := [vI 8, vI 1, vR 4]) rfl ?_
  by_cases h1 : sn S 1 < 8
  · refine gW_eq (st' := [vI (nI 8), vI (nI 1), vR 4]) rfl (by rw [(show (1 : Int32) = nI 1 from rfl), (show (8 : Int32) = nI 8 from rfl)]) rfl ?_
    refine g_cV1E rfl (args := [vR 4, vI (nI 1), vI (nI 8)]) (rest := []) rfl rfl rfl (s_11a (d := d + 2) hT (((hD.cnt (by decide))).trans (hI.c1)) (by omega) (by omega) (by omega) (by assumption)) (fun s2 es2 => ?_)
    have hTs2 := es2.1
    have hFs2 := hF.cn es2.2
    have hLs2 : cwL 350 s2 S := hL.eqc (fun c c1 c2 => es2.2.1 c (by omega))
    have hDs2 : cwD 300 s2 S := hD.eqc (fun c c1 => es2.2.1 c (by omega))
    refine g_pure 7 (i' := 11) (lv' := [some (vR 4), some (vI (nI (sn S 1)))]) (st' := [vI 0, vR 4, vI (nI (sn S 1)), vR 352]) rfl ?_
    by_cases h3 : tkP T tn (nxK T tn tk) 4 0 (sn S 0)
    · refine gW_eq (st' := [vI (nI 0), vR 4, vI (nI (sn S 1)), vR 352]) rfl (by rw [(show (0 : Int32) = nI 0 from rfl)]) rfl ?_
      refine g_cV1E rfl (args := [vR 4, vI (nI 0)]) (rest := [vI (nI (sn S 1)), vR 352]) rfl rfl rfl (s_15a (d := d + 1) hTs2 (((hDs2.cnt (by decide))).trans (hI.c0)) (by omega) (by omega) (by assumption)) (fun s4 es4 => ?_)
      have hTs4 := es4.1
      have hFs4 := hFs2.cn es4.2
      have hLs4 : cwL 350 s4 S := hLs2.eqc (fun c c1 c2 => es4.2.1 c (by omega))
      have hDs4 : cwD 300 s4 S := hDs2.eqc (fun c c1 => es4.2.1 c (by omega))
      have t5 := (show tkP T tn (nxK T tn tk) 4 0 (sn S 0) by assumption).2.2.2
      refine g_ast rfl (g_A (a := 352) (kd := 1) (n := 8) rfl (by decide)) (by decide) (show nI (sn S 1) = nI (sn S 1) from (rfl : nI (sn S 1) = nI (sn S 1))) (by omega) ?_
      refine g_setv (fun s6 es6 => ?_)
      have hTs6 : CT T tn (nxK T tn (nxK T tn tk)) s6 := hTs4.eq (by rw [es6, mu_ne (by omega)]) (by rw [es6, mu_ne (by omega)])
      have hFs6 : FRc sg0 s6 := by rw [es6]; exact hFs4.mu (by omega)
      have hLs6 : cwL 350 s6 (upd S (113 + 6 * (sn S 1)) (nI (numK T tn (nxK T tn tk)))) := by rw [es6]; exact hLs4.wper (j := 0) (by decide) (by omega)
      have hDs6 : cwD 300 s6 (upd S (113 + 6 * (sn S 1)) (nI (numK T tn (nxK T tn tk)))) := by rw [es6]; exact hDs4.life (by decide) (by unfold noLand; omega)
      refine g_pure 5 (i' := 18) (lv' := [some (vR 4), some (vI (nI (sn S 1)))]) (st' := [vI (-1), vI (nI (sn S 1)), vR 353]) rfl ?_
      refine g_ast rfl (g_A (a := 353) (kd := 1) (n := 8) rfl (by decide)) (by decide) (show nI (sn S 1) = nI (sn S 1) from (rfl : nI (sn S 1) = nI (sn S 1))) (by omega) ?_
      refine g_setv (fun s7 es7 => ?_)
      have hTs7 : CT T tn (nxK T tn (nxK T tn tk)) s7 := hTs6.eq (by rw [es7, mu_ne (by omega)]) (by rw [es7, mu_ne (by omega)])
      have hFs7 : FRc sg0 s7 := by rw [es7]; exact hFs6.mu (by omega)
      have hLs7 : cwL 350 s7 (upd (upd S (113 + 6 * (sn S 1)) (nI (numK T tn (nxK T tn tk)))) (113 + 6 * (sn S 1) + 1) (-1)) := by rw [es7]; exact hLs6.wper (j := 1) (by decide) (by omega)
      have hDs7 : cwD 300 s7 (upd (upd S (113 + 6 * (sn S 1)) (nI (numK T tn (nxK T tn tk)))) (113 + 6 * (sn S 1) + 1) (-1)) := by rw [es7]; exact hDs6.life (by decide) (by unfold noLand; omega)
      refine g_pure 5 (i' := 24) (lv' := [some (vR 4), some (vI (nI (sn S 1)))]) (st' := [vI (-1), vI (nI (sn S 1)), vR 354]) rfl ?_
      refine g_ast rfl (g_A (a := 354) (kd := 1) (n := 8) rfl (by decide)) (by decide) (show nI (sn S 1) = nI (sn S 1) from (rfl : nI (sn S 1) = nI (sn S 1))) (by omega) ?_
      refine g_setv (fun s8 es8 => ?_)
      have hTs8 : CT T tn (nxK T tn (nxK T tn tk)) s8 := hTs7.eq (by rw [es8, mu_ne (by omega)]) (by rw [es8, mu_ne (by omega)])
      have hFs8 : FRc sg0 s8 := by rw [es8]; exact hFs7.mu (by omega)
      have hLs8 : cwL 350 s8 (upd (upd (upd S (113 + 6 * (sn S 1)) (nI (numK T tn (nxK T tn tk)))) (113 + 6 * (sn S 1) + 1) (-1)) (113 + 6 * (sn S 1) + 2) (-1)) := by rw [es8]; exact hLs7.wper (j := 2) (by decide) (by omega)
      have hDs8 : cwD 300 s8 (upd (upd (upd S (113 + 6 * (sn S 1)) (nI (numK T tn (nxK T tn tk)))) (113 + 6 * (sn S 1) + 1) (-1)) (113 + 6 * (sn S 1) + 2) (-1)) := by rw [es8]; exact hDs7.life (by decide) (by unfold noLand; omega)
      refine g_pure 9 (i' := 34) (lv' := [some (vR 4), some (vI (nI (sn S 1)))]) (st' := [vI 9999, vI 0, vI 4, vR 1, vI (nI (sn S 1)), vR 355]) rfl ?_
      by_cases h9 : tkP T tn (nxK T tn (nxK T tn tk)) 4 0 10000
      · refine gW_eq (st' := [vI 9999, vI (nI 0), vI (nI 4), vR 1, vI (nI (sn S 1)), vR 355]) rfl (by rw [(show (4 : Int32) = nI 4 from rfl), (show (0 : Int32) = nI 0 from rfl)]) rfl ?_
        refine g_cV1E rfl (args := [vR 1, vI (nI 4), vI (nI 0), vI 9999]) (rest := [vI (nI (sn S 1)), vR 355]) rfl rfl rfl (s_77a (m := 10000) (d := d + 2) hTs8 (by omega) (by omega) (by omega) (show (9999 : Int32) = nI 10000 - 1 from by decide) (by assumption)) (fun s10 es10 => ?_)
        have hTs10 := es10.1
        have hFs10 := hFs8.cn es10.2
        have hLs10 : cwL 350 s10 (upd (upd (upd S (113 + 6 * (sn S 1)) (nI (numK T tn (nxK T tn tk)))) (113 + 6 * (sn S 1) + 1) (-1)) (113 + 6 * (sn S 1) + 2) (-1)) := hLs8.eqc (fun c c1 c2 => es10.2.1 c (by omega))
        have hDs10 : cwD 300 s10 (upd (upd (upd S (113 + 6 * (sn S 1)) (nI (numK T tn (nxK T tn tk)))) (113 + 6 * (sn S 1) + 1) (-1)) (113 + 6 * (sn S 1) + 2) (-1)) := hDs8.eqc (fun c c1 => es10.2.1 c (by omega))
        have t11 := (show tkP T tn (nxK T tn (nxK T tn tk)) 4 0 10000 by assumption).2.2
        refine g_ast rfl (g_A (a := 355) (kd := 1) (n := 8) rfl (by decide)) (by decide) (show nI (sn S 1) = nI (sn S 1) from (rfl : nI (sn S 1) = nI (sn S 1))) (by omega) ?_
        refine g_setv (fun s12 es12 => ?_)
        have hTs12 : CT T tn (nxK T tn (nxK T tn (nxK T tn tk))) s12 := hTs10.eq (by rw [es12, mu_ne (by omega)]) (by rw [es12, mu_ne (by omega)])
        have hFs12 : FRc sg0 s12 := by rw [es12]; exact hFs10.mu (by omega)
        have hLs12 : cwL 350 s12 (upd (upd (upd (upd S (113 + 6 * (sn S 1)) (nI (numK T tn (nxK T tn tk)))) (113 + 6 * (sn S 1) + 1) (-1)) (113 + 6 * (sn S 1) + 2) (-1)) (113 + 6 * (sn S 1) + 3) (nI (numK T tn (nxK T tn (nxK T tn tk))))) := by rw [es12]; exact hLs10.wper (j := 3) (by decide) (by omega)
        have hDs12 : cwD 300 s12 (upd (upd (upd (upd S (113 + 6 * (sn S 1)) (nI (numK T tn (nxK T tn tk)))) (113 + 6 * (sn S 1) + 1) (-1)) (113 + 6 * (sn S 1) + 2) (-1)) (113 + 6 * (sn S 1) + 3) (nI (numK T tn (nxK T tn (nxK T tn tk))))) := by rw [es12]; exact hDs10.life (by decide) (by unfold noLand; omega)
        refine g_pure 5 (i' := 41) (lv' := [some (vR 4), some (vI (nI (sn S 1)))]) (st' := [vI 0, vI (nI (sn S 1)), vR 356]) rfl ?_
        refine g_ast rfl (g_A (a := 356) (kd := 1) (n := 8) rfl (by decide)) (by decide) (show nI (sn S 1) = nI (sn S 1) from (rfl : nI (sn S 1) = nI (sn S 1))) (by omega) ?_
        refine g_setv (fun s13 es13 => ?_)
        have hTs13 : CT T tn (nxK T tn (nxK T tn (nxK T tn tk))) s13 := hTs12.eq (by rw [es13, mu_ne (by omega)]) (by rw [es13, mu_ne (by omega)])
        have hFs13 : FRc sg0 s13 := by rw [es13]; exact hFs12.mu (by omega)
        have hLs13 : cwL 350 s13 (upd (upd (upd (upd (upd S (113 + 6 * (sn S 1)) (nI (numK T tn (nxK T tn tk)))) (113 + 6 * (sn S 1) + 1) (-1)) (113 + 6 * (sn S 1) + 2) (-1)) (113 + 6 * (sn S 1) + 3) (nI (numK T tn (nxK T tn (nxK T tn tk))))) (113 + 6 * (sn S 1) + 4) 0) := by rw [es13]; exact hLs12.wper (j := 4) (by decide) (by omega)
        have hDs13 : cwD 300 s13 (upd (upd (upd (upd (upd S (113 + 6 * (sn S 1)) (nI (numK T tn (nxK T tn tk)))) (113 + 6 * (sn S 1) + 1) (-1)) (113 + 6 * (sn S 1) + 2) (-1)) (113 + 6 * (sn S 1) + 3) (nI (numK T tn (nxK T tn (nxK T tn tk))))) (113 + 6 * (sn S 1) + 4) 0) := by rw [es13]; exact hDs12.life (by decide) (by unfold noLand; omega)
        refine g_pure 5 (i' := 47) (lv' := [some (vR 4), some (vI (nI (sn S 1)))]) (st' := [vI 0, vI (nI (sn S 1)), vR 357]) rfl ?_
        refine g_ast rfl (g_A (a := 357) (kd := 1) (n := 8) rfl (by decide)) (by decide) (show nI (sn S 1) = nI (sn S 1) from (rfl : nI (sn S 1) = nI (sn S 1))) (by omega) ?_
        refine g_setv (fun s14 es14 => ?_)
        have hTs14 : CT T tn (nxK T tn (nxK T tn (nxK T tn tk))) s14 := hTs13.eq (by rw [es14, mu_ne (by omega)]) (by rw [es14, mu_ne (by omega)])
        have hFs14 : FRc sg0 s14 := by rw [es14]; exact hFs13.mu (by omega)
        have hLs14 : cwL 350 s14 (upd (upd (upd (upd (upd (upd S (113 + 6 * (sn S 1)) (nI (numK T tn (nxK T tn tk)))) (113 + 6 * (sn S 1) + 1) (-1)) (113 + 6 * (sn S 1) + 2) (-1)) (113 + 6 * (sn S 1) + 3) (nI (numK T tn (nxK T tn (nxK T tn tk))))) (113 + 6 * (sn S 1) + 4) 0) (113 + 6 * (sn S 1) + 5) 0) := by rw [es14]; exact hLs13.wper (j := 5) (by decide) (by omega)
        have hDs14 : cwD 300 s14 (upd (upd (upd (upd (upd (upd S (113 + 6 * (sn S 1)) (nI (numK T tn (nxK T tn tk)))) (113 + 6 * (sn S 1) + 1) (-1)) (113 + 6 * (sn S 1) + 2) (-1)) (113 + 6 * (sn S 1) + 3) (nI (numK T tn (nxK T tn (nxK T tn tk))))) (113 + 6 * (sn S 1) + 4) 0) (113 + 6 * (sn S 1) + 5) 0) := by rw [es14]; exact hDs13.life (by decide) (by unfold noLand; omega)
        refine g_pure 3 (i' := 51) (lv' := [some (vR 4), some (vI (nI (sn S 1)))]) (st' := [vR 302, vR 302]) rfl ?_
        refine g_getI rfl (g_A (a := 302) (kd := 0) (n := 3) rfl (by decide)) (show _ = S 11 from ((((((hDs14.f9).trans (upd_ne (by omega))).trans (upd_ne (by omega))).trans (upd_ne (by omega))).trans (upd_ne (by omega))).trans (upd_ne (by omega))).trans (upd_ne (by omega))) ?_
        refine g_pure 4 (i' := 56) (lv' := [some (vR 4), some (vI (nI (sn S 1)))]) (st' := [vI (nI (sn S 1)), vR 355, vI (S 11), vR 302]) rfl ?_
        refine g_ald rfl (g_A (a := 355) (kd := 1) (n := 8) rfl (by decide)) (by decide) (show nI (sn S 1) = nI (sn S 1) from (rfl : nI (sn S 1) = nI (sn S 1))) (by omega) (show _ = nI (numK T tn (nxK T tn (nxK T tn tk))) from ((((hLs14.per 3 (by decide) (by omega))).trans (upd_ne (by omega))).trans (upd_ne (by omega))).trans upd_self) ?_
        refine g_pure 1 (i' := 58) (lv' := [some (vR 4), some (vI (nI (sn S 1)))]) (st' := [vI (S 11 + nI (numK T tn (nxK T tn (nxK T tn tk)))), vR 302]) rfl ?_
        refine g_putI rfl (g_A (a := 302) (kd := 0) (n := 3) rfl (by decide)) ?_
        refine g_setv (fun s15 es15 => ?_)
        have hTs15 : CT T tn (nxK T tn (nxK T tn (nxK T tn tk))) s15 := hTs14.eq (by rw [es15, mu_ne (by omega)]) (by rw [es15, mu_ne (by omega)])
        have hFs15 : FRc sg0 s15 := by rw [es15]; exact hFs14.mu (by omega)
        have hLs15 : cwL 350 s15 (upd (upd (upd (upd (upd (upd (upd S (113 + 6 * (sn S 1)) (nI (numK T tn (nxK T tn tk)))) (113 + 6 * (sn S 1) + 1) (-1)) (113 + 6 * (sn S 1) + 2) (-1)) (113 + 6 * (sn S 1) + 3) (nI (numK T tn (nxK T tn (nxK T tn tk))))) (113 + 6 * (sn S 1) + 4) 0) (113 + 6 * (sn S 1) + 5) 0) 11 (S 11 + nI (numK T tn (nxK T tn (nxK T tn tk))))) := by rw [es15]; exact hLs14.land (by omega) (by unfold noLand; omega)
        have hDs15 : cwD 300 s15 (upd (upd (upd (upd (upd (upd (upd S (113 + 6 * (sn S 1)) (nI (numK T tn (nxK T tn tk)))) (113 + 6 * (sn S 1) + 1) (-1)) (113 + 6 * (sn S 1) + 2) (-1)) (113 + 6 * (sn S 1) + 3) (nI (numK T tn (nxK T tn (nxK T tn tk))))) (113 + 6 * (sn S 1) + 4) 0) (113 + 6 * (sn S 1) + 5) 0) 11 (S 11 + nI (numK T tn (nxK T tn (nxK T tn tk))))) := by rw [es15]; exact hDs14.wfl (by decide)
        refine g_pure 5 (i' := 64) (lv' := [some (vR 4), some (vI (nI (sn S 1)))]) (st' := [vI 1, vR 303, vI 1, vR 303]) rfl ?_
        refine g_ald rfl (g_A (a := 303) (kd := 1) (n := 6) rfl (by decide)) (by decide) (show 1 = nI 1 from (show (1 : Int32) = nI 1 from rfl)) (by decide) (show _ = S 1 from ((((((((hDs15.cnt (by decide))).trans (upd_ne (by omega))).trans (upd_ne (by omega))).trans (upd_ne (by omega))).trans (upd_ne (by omega))).trans (upd_ne (by omega))).trans (upd_ne (by omega))).trans (upd_ne (by omega))) ?_
        refine g_pure 2 (i' := 67) (lv' := [some (vR 4), some (vI (nI (sn S 1)))]) (st' := [vI (S 1 + 1), vI 1, vR 303]) rfl ?_
        refine gW_eq (lv' := [some (vR 4), some (vI (nI (sn S 1)))]) (st' := [vI (nI (sn S 1 + 1)), vI 1, vR 303]) rfl (by rw [(show (S 1 + 1) = nI (sn S 1 + 1) from ((g_add (hI.c1) (show (1 : Int32) = nI 1 from rfl))).trans (congrArg nI (by omega)))]) rfl ?_
        refine g_ast rfl (g_A (a := 303) (kd := 1) (n := 6) rfl (by decide)) (by decide) (show 1 = nI 1 from (show (1 : Int32) = nI 1 from rfl)) (by decide) ?_
        refine g_setv (fun s16 es16 => ?_)
        have hTs16 : CT T tn (nxK T tn (nxK T tn (nxK T tn tk))) s16 := hTs15.eq (by rw [es16, mu_ne (by omega)]) (by rw [es16, mu_ne (by omega)])
        have hFs16 : FRc sg0 s16 := by rw [es16]; exact hFs15.mu (by omega)
        have hLs16 : cwL 350 s16 (upd (upd (upd (upd (upd (upd (upd (upd S (113 + 6 * (sn S 1)) (nI (numK T tn (nxK T tn tk)))) (113 + 6 * (sn S 1) + 1) (-1)) (113 + 6 * (sn S 1) + 2) (-1)) (113 + 6 * (sn S 1) + 3) (nI (numK T tn (nxK T tn (nxK T tn tk))))) (113 + 6 * (sn S 1) + 4) 0) (113 + 6 * (sn S 1) + 5) 0) 11 (S 11 + nI (numK T tn (nxK T tn (nxK T tn tk))))) 1 (nI (sn S 1 + 1))) := by rw [es16]; exact hLs15.land (by omega) (by unfold noLand; omega)
        have hDs16 : cwD 300 s16 (upd (upd (upd (upd (upd (upd (upd (upd S (113 + 6 * (sn S 1)) (nI (numK T tn (nxK T tn tk)))) (113 + 6 * (sn S 1) + 1) (-1)) (113 + 6 * (sn S 1) + 2) (-1)) (113 + 6 * (sn S 1) + 3) (nI (numK T tn (nxK T tn (nxK T tn tk))))) (113 + 6 * (sn S 1) + 4) 0) (113 + 6 * (sn S 1) + 5) 0) 11 (S 11 + nI (numK T tn (nxK T tn (nxK T tn tk))))) 1 (nI (sn S 1 + 1))) := by rw [es16]; exact hDs15.wcnt (by decide)
        refine g_vret rfl ?_
        exact o1 h1 s2 es2 h3 s4 es4 s6 es6 s7 es7 s8 es8 h9 s10 es10 s12 es12 s13 es13 s14 es14 s15 es15 s16 es16 hTs16 hFs16 hLs16 hDs16
      · refine gW_eq (st' := [vI 9999, vI (nI 0), vI (nI 4), vR 1, vI (nI (sn S 1)), vR 355]) rfl (by rw [(show (4 : Int32) = nI 4 from rfl), (show (0 : Int32) = nI 0 from rfl)]) rfl ?_
        refine g_cVxE rfl (args := [vR 1, vI (nI 4), vI (nI 0), vI 9999]) (rest := [vI (nI (sn S 1)), vR 355]) rfl rfl rfl (s_77b (m := 10000) (d := d + 2) hTs8 (by omega) (by omega) (by omega) (show (9999 : Int32) = nI 10000 - 1 from by decide) (by assumption)) (fun s17 es17 => ?_)
        exact o2 h1 s2 es2 h3 s4 es4 s6 es6 s7 es7 s8 es8 h9 s17 es17 hTs8 hFs8 hLs8 hDs8
    · refine gW_eq (st' := [vI (nI 0), vR 4, vI (nI (sn S 1)), vR 352]) rfl (by rw [(show (0 : Int32) = nI 0 from rfl)]) rfl ?_
      refine g_cVxE rfl (args := [vR 4, vI (nI 0)]) (rest := [vI (nI (sn S 1)), vR 352]) rfl rfl rfl (s_15b (d := d + 1) hTs2 (((hDs2.cnt (by decide))).trans (hI.c0)) (by omega) (by omega) (by assumption)) (fun s18 es18 => ?_)
      exact o3 h1 s2 es2 h3 s18 es18 hTs2 hFs2 hLs2 hDs2
  · refine gW_eq (st' := [vI (nI 8), vI (nI 1), vR 4]) rfl (by rw [(show (1 : Int32) = nI 1 from rfl), (show (8 : Int32) = nI 8 from rfl)]) rfl ?_
    refine g_cVxE rfl (args := [vR 4, vI (nI 1), vI (nI 8)]) (rest := []) rfl rfl rfl (s_11b (d := d + 2) hT (((hD.cnt (by decide))).trans (hI.c1)) (by omega) (by omega) (by omega) (by assumption)) (fun s19 es19 => ?_)
    exact o4 h1 s19 es19 hT hF hL hD

noncomputable def prPer (T : Nat → Int32) (n k : Nat) (S : Nat → Int32) : PRs := (sel (sn S 1 < 8) (sel (tkP T n (nxK T n k) 4 0 (sn S 0)) (sel (tkP T n (nxK T n (nxK T n k)) 4 0 10000) (.inr (nxK T n (nxK T n (nxK T n k)), (upd (upd (upd (upd (upd (upd (upd (upd S (113 + 6 * (sn S 1)) (nI (numK T n (nxK T n k)))) (113 + 6 * (sn S 1) + 1) (-1)) (113 + 6 * (sn S 1) + 2) (-1)) (113 + 6 * (sn S 1) + 3) (nI (numK T n (nxK T n (nxK T n k))))) (113 + 6 * (sn S 1) + 4) 0) (113 + 6 * (sn S 1) + 5) 0) 11 (S 11 + nI (numK T n (nxK T n (nxK T n k))))) 1 (nI (sn S 1 + 1))))) (.inl (spK T n (nxK T n (nxK T n k))))) (.inl (spK T n (nxK T n k)))) (.inl (spK T n k)))

theorem s_14 {X : Nat × (Nat → Int32)} {d : Nat} {p : Nat → Nat} {sg : Mg} {B : Nat} {S : Nat → Int32} (hI : Inv B S) (hL : cwL 350 sg S) (hD : cwD 300 sg S) {T : Nat → Int32} {tn tk : Nat} (hT : CT T tn tk sg) : gF X (d + 5) 14 [vR 4] p sg (lnC (prPer T tn tk S) T tn sg p) := by
  refine g_in (cd := k_14) (nL := 2) (rc := 2) rfl (g_A (a := 4) (kd := 0) (n := 1) rfl (by decide)) (g_c1 rfl) (b_14_0 hI hL hD hT (FRc.rf sg) ?_ ?_ ?_ ?_)
  · intro h0 s1 e1 h2 s3 e3 s4 e4 s5 e5 s6 e6 h7 s8 e8 s9 e9 s10 e10 s11 e11 s12 e12 s13 e13 cT cF cL cD
    unfold prPer
    rw [sel_t h0, sel_t h2, sel_t h7]
    exact ⟨_, ⟨cF, cT, cL, cD⟩, rfl⟩
  · intro h0 s1 e1 h2 s3 e3 s4 e4 s5 e5 s6 e6 h7 s8 e8 cT cF cL cD
    unfold prPer
    rw [sel_t h0, sel_t h2, sel_f h7]
    exact LF.of cF e8
  · intro h0 s1 e1 h2 s3 e3 cT cF cL cD
    unfold prPer
    rw [sel_t h0, sel_f h2]
    exact LF.of cF e3
  · intro h0 s1 e1 cT cF cL cD
    unfold prPer
    rw [sel_f h0]
    exact LF.of cF e1

theorem b_16_0 {X : Nat × (Nat → Int32)} {d : Nat} {p : Nat → Nat} {sg : Mg} {Q : am_R → Prop} {B : Nat} {S : Nat → Int32} (hI : Inv B S) (hL : cwL 350 sg S) (hD : cwD 300 sg S) {T : Nat → Int32} {tn tk : Nat} (hT : CT T tn tk sg) {sg0 : Mg} (hF : FRc sg0 sg)
    (o1 : (sn S 2 < 8) → ∀ s2 : Mg, (CT T tn (nxK T tn tk) s2 ∧ CN sg s2) → (tkP T tn (nxK T tn tk) 4 0 (sn S 0)) → ∀ s4 : Mg, (CT T tn (nxK T tn (nxK T tn tk)) s4 ∧ CN s2 s4) → ∀ s6 : Mg, s6 = mu s4 (314 + sn S 2) 0 (nI (numK T tn (nxK T tn tk))) → (tkP T tn (nxK T tn (nxK T tn tk)) 4 0 (sn S 9)) → ∀ s8 : Mg, (CT T tn (nxK T tn (nxK T tn (nxK T tn tk))) s8 ∧ CN s6 s8) → ∀ s10 : Mg, s10 = mu s8 (314 + sn S 2) 1 (nI (numK T tn (nxK T tn (nxK T tn tk)))) → ∀ s11 : Mg, s11 = mu s10 303 2 (nI (sn S 2 + 1)) → CT T tn (nxK T tn (nxK T tn (nxK T tn tk))) s11 → FRc sg0 s11 → cwL 350 s11 (upd (upd (upd S (161 + 2 * (sn S 2)) (nI (numK T tn (nxK T tn tk)))) (161 + 2 * (sn S 2) + 1) (nI (numK T tn (nxK T tn (nxK T tn tk))))) 2 (nI (sn S 2 + 1))) → cwD 300 s11 (upd (upd (upd S (161 + 2 * (sn S 2)) (nI (numK T tn (nxK T tn tk)))) (161 + 2 * (sn S 2) + 1) (nI (numK T tn (nxK T tn (nxK T tn tk))))) 2 (nI (sn S 2 + 1))) → Q (gR0 p s11))
    (o2 : (sn S 2 < 8) → ∀ s2 : Mg, (CT T tn (nxK T tn tk) s2 ∧ CN sg s2) → (tkP T tn (nxK T tn tk) 4 0 (sn S 0)) → ∀ s4 : Mg, (CT T tn (nxK T tn (nxK T tn tk)) s4 ∧ CN s2 s4) → ∀ s6 : Mg, s6 = mu s4 (314 + sn S 2) 0 (nI (numK T tn (nxK T tn tk))) → (¬ tkP T tn (nxK T tn (nxK T tn tk)) 4 0 (sn S 9)) → ∀ s12 : Mg, (CF (spK T tn (nxK T tn (nxK T tn tk))) s6 s12) → CT T tn (nxK T tn (nxK T tn tk)) s6 → FRc sg0 s6 → cwL 350 s6 (upd S (161 + 2 * (sn S 2)) (nI (numK T tn (nxK T tn tk)))) → cwD 300 s6 (upd S (161 + 2 * (sn S 2)) (nI (numK T tn (nxK T tn tk)))) → Q (gRx p s12 0))
    (o3 : (sn S 2 < 8) → ∀ s2 : Mg, (CT T tn (nxK T tn tk) s2 ∧ CN sg s2) → (¬ tkP T tn (nxK T tn tk) 4 0 (sn S 0)) → ∀ s13 : Mg, (CF (spK T tn (nxK T tn tk)) s2 s13) → CT T tn (nxK T tn tk) s2 → FRc sg0 s2 → cwL 350 s2 S → cwD 300 s2 S → Q (gRx p s13 0))
    (o4 : (¬ (sn S 2 < 8)) → ∀ s14 : Mg, (CF (spK T tn tk) sg s14) → CT T tn tk sg → FRc sg0 sg → cwL 350 sg S → cwD 300 sg S → Q (gRx p s14 0)) :
    gW X (d + 4) k_16 0 [some (vR 4), none] [] p sg Q := by
  have b0 := hI.b0; have b1 := hI.b1; have b2 := hI.b2; have b3 := hI.b3; have b4 := hI.b4; have b5 := hI.b5; have b6 := hI.b6; have b7 := hI.b7; have b8 := hI.b8; have b9 := hI.b9; have b14 := hI.b14
  refine g_pure 6 (i' := 6) (lv' := [some (vR 4), none]) (st' := [vI 8, vI 2, vR 4, vR 304]) rfl ?_
  by_cases h1 : sn S 2 < 8
  · refine gW_eq (st' := [vI (nI 8), vI (nI 2), vR 4, vR 304]) rfl (by rw [(show (2 : Int32) = nI 2 from rfl), (show (8 : Int32) = nI 8 from rfl)]) rfl ?_
    refine g_cV1E rfl (args := [vR 4, vI (nI 2), vI (nI 8)]) (rest := [vR 304]) rfl rfl rfl (s_11a (d := d + 2) hT (((hD.cnt (by decide))).trans (hI.c2)) (by omega) (by omega) (by omega) (by assumption)) (fun s2 es2 => ?_)
    have hTs2 := es2.1
    have hFs2 := hF.cn es2.2
    have hLs2 : cwL 350 s2 S := hL.eqc (fun c c1 c2 => es2.2.1 c (by omega))
    have hDs2 : cwD 300 s2 S := hD.eqc (fun c c1 => es2.2.1 c (by omega))
    refine g_aald rfl (Or.inl rfl) (g_A (a := 304) (kd := 5) (n := 8) rfl (by decide)) (by decide) (show nI (sn S 2) = nI (sn S 2) from (rfl : nI (sn S 2) = nI (sn S 2))) (by omega) (gR_304 (by omega)) ?_
    refine g_pure 5 (i' := 13) (lv' := [some (vR 4), some (vR (314 + sn S 2))]) (st' := [vI 0, vR 4, vI 0, vR (314 + sn S 2)]) rfl ?_
    by_cases h3 : tkP T tn (nxK T tn tk) 4 0 (sn S 0)
    · refine gW_eq (st' := [vI (nI 0), vR 4, vI 0, vR (314 + sn S 2)]) rfl (by rw [(show (0 : Int32) = nI 0 from rfl)]) rfl ?_
      refine g_cV1E rfl (args := [vR 4, vI (nI 0)]) (rest := [vI 0, vR (314 + sn S 2)]) rfl rfl rfl (s_15a (d := d + 1) hTs2 (((hDs2.cnt (by decide))).trans (hI.c0)) (by omega) (by omega) (by assumption)) (fun s4 es4 => ?_)
      have hTs4 := es4.1
      have hFs4 := hFs2.cn es4.2
      have hLs4 : cwL 350 s4 S := hLs2.eqc (fun c c1 c2 => es4.2.1 c (by omega))
      have hDs4 : cwD 300 s4 S := hDs2.eqc (fun c c1 => es4.2.1 c (by omega))
      have t5 := (show tkP T tn (nxK T tn tk) 4 0 (sn S 0) by assumption).2.2.2
      refine g_ast rfl (gA_304 (by omega)) (by decide) (show 0 = nI 0 from (show (0 : Int32) = nI 0 from rfl)) (by decide) ?_
      refine g_setv (fun s6 es6 => ?_)
      have hTs6 : CT T tn (nxK T tn (nxK T tn tk)) s6 := hTs4.eq (by rw [es6, mu_ne (by omega)]) (by rw [es6, mu_ne (by omega)])
      have hFs6 : FRc sg0 s6 := by rw [es6]; exact hFs4.mu (by omega)
      have hLs6 : cwL 350 s6 (upd S (161 + 2 * (sn S 2)) (nI (numK T tn (nxK T tn tk)))) := by rw [es6]; exact hLs4.land (by omega) (by unfold noLand; omega)
      have hDs6 : cwD 300 s6 (upd S (161 + 2 * (sn S 2)) (nI (numK T tn (nxK T tn tk)))) := by rw [es6]; exact hDs4.wfac (by omega) (by omega)
      refine g_pure 3 (i' := 18) (lv' := [some (vR 4), some (vR (314 + sn S 2))]) (st' := [vR 4, vI 1, vR (314 + sn S 2)]) rfl ?_
      by_cases h7 : tkP T tn (nxK T tn (nxK T tn tk)) 4 0 (sn S 9)
      · refine g_cV1E rfl (args := [vR 4]) (rest := [vI 1, vR (314 + sn S 2)]) rfl rfl rfl (s_13a (d := d + 1) hTs6 (((hDs6.f5).trans (upd_ne (by omega))).trans (hI.c9)) (by omega) (by assumption)) (fun s8 es8 => ?_)
        have hTs8 := es8.1
        have hFs8 := hFs6.cn es8.2
        have hLs8 : cwL 350 s8 (upd S (161 + 2 * (sn S 2)) (nI (numK T tn (nxK T tn tk)))) := hLs6.eqc (fun c c1 c2 => es8.2.1 c (by omega))
        have hDs8 : cwD 300 s8 (upd S (161 + 2 * (sn S 2)) (nI (numK T tn (nxK T tn tk)))) := hDs6.eqc (fun c c1 => es8.2.1 c (by omega))
        have t9 := (show tkP T tn (nxK T tn (nxK T tn tk)) 4 0 (sn S 9) by assumption).2.2.2
        refine g_ast rfl (gA_304 (by omega)) (by decide) (show 1 = nI 1 from (show (1 : Int32) = nI 1 from rfl)) (by decide) ?_
        refine g_setv (fun s10 es10 => ?_)
        have hTs10 : CT T tn (nxK T tn (nxK T tn (nxK T tn tk))) s10 := hTs8.eq (by rw [es10, mu_ne (by omega)]) (by rw [es10, mu_ne (by omega)])
        have hFs10 : FRc sg0 s10 := by rw [es10]; exact hFs8.mu (by omega)
        have hLs10 : cwL 350 s10 (upd (upd S (161 + 2 * (sn S 2)) (nI (numK T tn (nxK T tn tk)))) (161 + 2 * (sn S 2) + 1) (nI (numK T tn (nxK T tn (nxK T tn tk))))) := by rw [es10]; exact hLs8.land (by omega) (by unfold noLand; omega)
        have hDs10 : cwD 300 s10 (upd (upd S (161 + 2 * (sn S 2)) (nI (numK T tn (nxK T tn tk)))) (161 + 2 * (sn S 2) + 1) (nI (numK T tn (nxK T tn (nxK T tn tk))))) := by rw [es10]; exact hDs8.wfac (by omega) (by omega)
        refine g_pure 5 (i' := 25) (lv' := [some (vR 4), some (vR (314 + sn S 2))]) (st' := [vI 2, vR 303, vI 2, vR 303]) rfl ?_
        refine g_ald rfl (g_A (a := 303) (kd := 1) (n := 6) rfl (by decide)) (by decide) (show 2 = nI 2 from (show (2 : Int32) = nI 2 from rfl)) (by decide) (show _ = S 2 from (((hDs10.cnt (by decide))).trans (upd_ne (by omega))).trans (upd_ne (by omega))) ?_
        refine g_pure 2 (i' := 28) (lv' := [some (vR 4), some (vR (314 + sn S 2))]) (st' := [vI (S 2 + 1), vI 2, vR 303]) rfl ?_
        refine gW_eq (lv' := [some (vR 4), some (vR (314 + sn S 2))]) (st' := [vI (nI (sn S 2 + 1)), vI 2, vR 303]) rfl (by rw [(show (S 2 + 1) = nI (sn S 2 + 1) from ((g_add (hI.c2) (show (1 : Int32) = nI 1 from rfl))).trans (congrArg nI (by omega)))]) rfl ?_
        refine g_ast rfl (g_A (a := 303) (kd := 1) (n := 6) rfl (by decide)) (by decide) (show 2 = nI 2 from (show (2 : Int32) = nI 2 from rfl)) (by decide) ?_
        refine g_setv (fun s11 es11 => ?_)
        have hTs11 : CT T tn (nxK T tn (nxK T tn (nxK T tn tk))) s11 := hTs10.eq (by rw [es11, mu_ne (by omega)]) (by rw [es11, mu_ne (by omega)])
        have hFs11 : FRc sg0 s11 := by rw [es11]; exact hFs10.mu (by omega)
        have hLs11 : cwL 350 s11 (upd (upd (upd S (161 + 2 * (sn S 2)) (nI (numK T tn (nxK T tn tk)))) (161 + 2 * (sn S 2) + 1) (nI (numK T tn (nxK T tn (nxK T tn tk))))) 2 (nI (sn S 2 + 1))) := by rw [es11]; exact hLs10.land (by omega) (by unfold noLand; omega)
        have hDs11 : cwD 300 s11 (upd (upd (upd S (161 + 2 * (sn S 2)) (nI (numK T tn (nxK T tn tk)))) (161 + 2 * (sn S 2) + 1) (nI (numK T tn (nxK T tn (nxK T tn tk))))) 2 (nI (sn S 2 + 1))) := by rw [es11]; exact hDs10.wcnt (by decide)
        refine g_vret rfl ?_
        exact o1 h1 s2 es2 h3 s4 es4 s6 es6 h7 s8 es8 s10 es10 s11 es11 hTs11 hFs11 hLs11 hDs11
      · refine g_cVxE rfl (args := [vR 4]) (rest := [vI 1, vR (314 + sn S 2)]) rfl rfl rfl (s_13b (d := d + 1) hTs6 (((hDs6.f5).trans (upd_ne (by omega))).trans (hI.c9)) (by omega) (by assumption)) (fun s12 es12 => ?_)
        exact o2 h1 s2 es2 h3 s4 es4 s6 es6 h7 s12 es12 hTs6 hFs6 hLs6 hDs6
    · refine gW_eq (st' := [vI (nI 0), vR 4, vI 0, vR (314 + sn S 2)]) rfl (by rw [(show (0 : Int32) = nI 0 from rfl)]) rfl ?_
      refine g_cVxE rfl (args := [vR 4, vI (nI 0)]) (rest := [vI 0, vR (314 + sn S 2)]) rfl rfl rfl (s_15b (d := d + 1) hTs2 (((hDs2.cnt (by decide))).trans (hI.c0)) (by omega) (by omega) (by assumption)) (fun s13 es13 => ?_)
      exact o3 h1 s2 es2 h3 s13 es13 hTs2 hFs2 hLs2 hDs2
  · refine gW_eq (st' := [vI (nI 8), vI (nI 2), vR 4, vR 304]) rfl (by rw [(show (2 : Int32) = nI 2 from rfl), (show (8 : Int32) = nI 8 from rfl)]) rfl ?_
    refine g_cVxE rfl (args := [vR 4, vI (nI 2), vI (nI 8)]) (rest := [vR 304]) rfl rfl rfl (s_11b (d := d + 2) hT (((hD.cnt (by decide))).trans (hI.c2)) (by omega) (by omega) (by omega) (by assumption)) (fun s14 es14 => ?_)
    exact o4 h1 s14 es14 hT hF hL hD

noncomputable def prFac (T : Nat → Int32) (n k : Nat) (S : Nat → Int32) : PRs := (sel (sn S 2 < 8) (sel (tkP T n (nxK T n k) 4 0 (sn S 0)) (sel (tkP T n (nxK T n (nxK T n k)) 4 0 (sn S 9)) (.inr (nxK T n (nxK T n (nxK T n k)), (upd (upd (upd S (161 + 2 * (sn S 2)) (nI (numK T n (nxK T n k)))) (161 + 2 * (sn S 2) + 1) (nI (numK T n (nxK T n (nxK T n k))))) 2 (nI (sn S 2 + 1))))) (.inl (spK T n (nxK T n (nxK T n k))))) (.inl (spK T n (nxK T n k)))) (.inl (spK T n k)))

theorem s_16 {X : Nat × (Nat → Int32)} {d : Nat} {p : Nat → Nat} {sg : Mg} {B : Nat} {S : Nat → Int32} (hI : Inv B S) (hL : cwL 350 sg S) (hD : cwD 300 sg S) {T : Nat → Int32} {tn tk : Nat} (hT : CT T tn tk sg) : gF X (d + 5) 16 [vR 4] p sg (lnC (prFac T tn tk S) T tn sg p) := by
  refine g_in (cd := k_16) (nL := 2) (rc := 2) rfl (g_A (a := 4) (kd := 0) (n := 1) rfl (by decide)) (g_c1 rfl) (b_16_0 hI hL hD hT (FRc.rf sg) ?_ ?_ ?_ ?_)
  · intro h0 s1 e1 h2 s3 e3 s4 e4 h5 s6 e6 s7 e7 s8 e8 cT cF cL cD
    unfold prFac
    rw [sel_t h0, sel_t h2, sel_t h5]
    exact ⟨_, ⟨cF, cT, cL, cD⟩, rfl⟩
  · intro h0 s1 e1 h2 s3 e3 s4 e4 h5 s6 e6 cT cF cL cD
    unfold prFac
    rw [sel_t h0, sel_t h2, sel_f h5]
    exact LF.of cF e6
  · intro h0 s1 e1 h2 s3 e3 cT cF cL cD
    unfold prFac
    rw [sel_t h0, sel_f h2]
    exact LF.of cF e3
  · intro h0 s1 e1 cT cF cL cD
    unfold prFac
    rw [sel_f h0]
    exact LF.of cF e1

theorem b_17_0 {X : Nat × (Nat → Int32)} {d : Nat} {p : Nat → Nat} {sg : Mg} {Q : am_R → Prop} {B : Nat} {S : Nat → Int32} (hI : Inv B S) (hL : cwL 350 sg S) (hD : cwD 300 sg S) {T : Nat → Int32} {tn tk : Nat} (hT : CT T tn tk sg) {sg0 : Mg} (hF : FRc sg0 sg)
    (o1 : (sn S 3 < 12) → ∀ s2 : Mg, (CT T tn (nxK T tn tk) s2 ∧ CN sg s2) → (tkP T tn (nxK T tn tk) 4 0 (sn S 0)) → ∀ s4 : Mg, (CT T tn (nxK T tn (nxK T tn tk)) s4 ∧ CN s2 s4) → ∀ s6 : Mg, s6 = mu s4 (322 + sn S 3) 0 (nI (numK T tn (nxK T tn tk))) → (tkN T tn (nxK T tn (nxK T tn tk)) (sn S 0) (numK T tn (nxK T tn tk))) → ∀ s8 : Mg, (CT T tn (nxK T tn (nxK T tn (nxK T tn tk))) s8 ∧ CN s6 s8) → ∀ s10 : Mg, s10 = mu s8 (322 + sn S 3) 1 (nI (numK T tn (nxK T tn (nxK T tn tk)))) → (tkP T tn (nxK T tn (nxK T tn (nxK T tn tk))) 4 1 6) → ∀ s12 : Mg, (CT T tn (nxK T tn (nxK T tn (nxK T tn (nxK T tn tk)))) s12 ∧ CN s10 s12) → ∀ s14 : Mg, s14 = mu s12 (322 + sn S 3) 2 (nI (numK T tn (nxK T tn (nxK T tn (nxK T tn tk))))) → ∀ s15 : Mg, s15 = mu s14 303 3 (nI (sn S 3 + 1)) → CT T tn (nxK T tn (nxK T tn (nxK T tn (nxK T tn tk)))) s15 → FRc sg0 s15 → cwL 350 s15 (upd (upd (upd (upd S (177 + 3 * (sn S 3)) (nI (numK T tn (nxK T tn tk)))) (177 + 3 * (sn S 3) + 1) (nI (numK T tn (nxK T tn (nxK T tn tk))))) (177 + 3 * (sn S 3) + 2) (nI (numK T tn (nxK T tn (nxK T tn (nxK T tn tk)))))) 3 (nI (sn S 3 + 1))) → cwD 300 s15 (upd (upd (upd (upd S (177 + 3 * (sn S 3)) (nI (numK T tn (nxK T tn tk)))) (177 + 3 * (sn S 3) + 1) (nI (numK T tn (nxK T tn (nxK T tn tk))))) (177 + 3 * (sn S 3) + 2) (nI (numK T tn (nxK T tn (nxK T tn (nxK T tn tk)))))) 3 (nI (sn S 3 + 1))) → Q (gR0 p s15))
    (o2 : (sn S 3 < 12) → ∀ s2 : Mg, (CT T tn (nxK T tn tk) s2 ∧ CN sg s2) → (tkP T tn (nxK T tn tk) 4 0 (sn S 0)) → ∀ s4 : Mg, (CT T tn (nxK T tn (nxK T tn tk)) s4 ∧ CN s2 s4) → ∀ s6 : Mg, s6 = mu s4 (322 + sn S 3) 0 (nI (numK T tn (nxK T tn tk))) → (tkN T tn (nxK T tn (nxK T tn tk)) (sn S 0) (numK T tn (nxK T tn tk))) → ∀ s8 : Mg, (CT T tn (nxK T tn (nxK T tn (nxK T tn tk))) s8 ∧ CN s6 s8) → ∀ s10 : Mg, s10 = mu s8 (322 + sn S 3) 1 (nI (numK T tn (nxK T tn (nxK T tn tk)))) → (¬ tkP T tn (nxK T tn (nxK T tn (nxK T tn tk))) 4 1 6) → ∀ s16 : Mg, (CF (spK T tn (nxK T tn (nxK T tn (nxK T tn tk)))) s10 s16) → CT T tn (nxK T tn (nxK T tn (nxK T tn tk))) s10 → FRc sg0 s10 → cwL 350 s10 (upd (upd S (177 + 3 * (sn S 3)) (nI (numK T tn (nxK T tn tk)))) (177 + 3 * (sn S 3) + 1) (nI (numK T tn (nxK T tn (nxK T tn tk))))) → cwD 300 s10 (upd (upd S (177 + 3 * (sn S 3)) (nI (numK T tn (nxK T tn tk)))) (177 + 3 * (sn S 3) + 1) (nI (numK T tn (nxK T tn (nxK T tn tk))))) → Q (gRx p s16 0))
    (o3 : (sn S 3 < 12) → ∀ s2 : Mg, (CT T tn (nxK T tn tk) s2 ∧ CN sg s2) → (tkP T tn (nxK T tn tk) 4 0 (sn S 0)) → ∀ s4 : Mg, (CT T tn (nxK T tn (nxK T tn tk)) s4 ∧ CN s2 s4) → ∀ s6 : Mg, s6 = mu s4 (322 + sn S 3) 0 (nI (numK T tn (nxK T tn tk))) → (¬ tkN T tn (nxK T tn (nxK T tn tk)) (sn S 0) (numK T tn (nxK T tn tk))) → ∀ s17 : Mg, (CF (spK T tn (nxK T tn (nxK T tn tk))) s6 s17) → CT T tn (nxK T tn (nxK T tn tk)) s6 → FRc sg0 s6 → cwL 350 s6 (upd S (177 + 3 * (sn S 3)) (nI (numK T tn (nxK T tn tk)))) → cwD 300 s6 (upd S (177 + 3 * (sn S 3)) (nI (numK T tn (nxK T tn tk)))) → Q (gRx p s17 0))
    (o4 : (sn S 3 < 12) → ∀ s2 : Mg, (CT T tn (nxK T tn tk) s2 ∧ CN sg s2) → (¬ tkP T tn (nxK T tn tk) 4 0 (sn S 0)) → ∀ s18 : Mg, (CF (spK T tn (nxK T tn tk)) s2 s18) → CT T tn (nxK T tn tk) s2 → FRc sg0 s2 → cwL 350 s2 S → cwD 300 s2 S → Q (gRx p s18 0))
    (o5 : (¬ (sn S 3 < 12)) → ∀ s19 : Mg, (CF (spK T tn tk) sg s19) → CT T tn tk sg → FRc sg0 sg → cwL 350 sg S → cwD 300 sg S → Q (gRx p s19 0)) :
    gW X (d + 4) k_17 0 [some (vR 4), none] [] p sg Q := by
  have b0 := hI.b0; have b1 := hI.b1; have b2 := hI.b2; have b3 := hI.b3; have b4 := hI.b4; have b5 := hI.b5; have b6 := hI.b6; have b7 := hI.b7; have b8 := hI.b8; have b9 := hI.b9; have b14 := hI.b14
  refine g_pure 6 (i' := 6) (lv' := [some (vR 4), none]) (st' := [vI 12, vI 3, vR 4, vR 305]) rfl ?_
  by_cases h1 : sn S 3 < 12
  · refine gW_eq (st' := [vI (nI 12), vI (nI 3), vR 4, vR 305]) rfl (by rw [(show (3 : Int32) = nI 3 from rfl), (show (12 : Int32) = nI 12 from rfl)]) rfl ?_
    refine g_cV1E rfl (args := [vR 4, vI (nI 3), vI (nI 12)]) (rest := [vR 305]) rfl rfl rfl (s_11a (d := d + 2) hT (((hD.cnt (by decide))).trans (hI.c3)) (by omega) (by omega) (by omega) (by assumption)) (fun s2 es2 => ?_)
    have hTs2 := es2.1
    have hFs2 := hF.cn es2.2
    have hLs2 : cwL 350 s2 S := hL.eqc (fun c c1 c2 => es2.2.1 c (by omega))
    have hDs2 : cwD 300 s2 S := hD.eqc (fun c c1 => es2.2.1 c (by omega))
    refine g_aald rfl (Or.inl rfl) (g_A (a := 305) (kd := 5) (n := 12) rfl (by decide)) (by decide) (show nI (sn S 3) = nI (sn S 3) from (rfl : nI (sn S 3) = nI (sn S 3))) (by omega) (gR_305 (by omega)) ?_
    refine g_pure 5 (i' := 13) (lv' := [some (vR 4), some (vR (322 + sn S 3))]) (st' := [vI 0, vR 4, vI 0, vR (322 + sn S 3)]) rfl ?_
    by_cases h3 : tkP T tn (nxK T tn tk) 4 0 (sn S 0)
    · refine gW_eq (st' := [vI (nI 0), vR 4, vI 0, vR (322 + sn S 3)]) rfl (by rw [(show (0 : Int32) = nI 0 from rfl)]) rfl ?_
      refine g_cV1E rfl (args := [vR 4, vI (nI 0)]) (rest := [vI 0, vR (322 + sn S 3)]) rfl rfl rfl (s_15a (d := d + 1) hTs2 (((hDs2.cnt (by decide))).trans (hI.c0)) (by omega) (by omega) (by assumption)) (fun s4 es4 => ?_)
      have hTs4 := es4.1
      have hFs4 := hFs2.cn es4.2
      have hLs4 : cwL 350 s4 S := hLs2.eqc (fun c c1 c2 => es4.2.1 c (by omega))
      have hDs4 : cwD 300 s4 S := hDs2.eqc (fun c c1 => es4.2.1 c (by omega))
      have t5 := (show tkP T tn (nxK T tn tk) 4 0 (sn S 0) by assumption).2.2.2
      refine g_ast rfl (gA_305 (by omega)) (by decide) (show 0 = nI 0 from (show (0 : Int32) = nI 0 from rfl)) (by decide) ?_
      refine g_setv (fun s6 es6 => ?_)
      have hTs6 : CT T tn (nxK T tn (nxK T tn tk)) s6 := hTs4.eq (by rw [es6, mu_ne (by omega)]) (by rw [es6, mu_ne (by omega)])
      have hFs6 : FRc sg0 s6 := by rw [es6]; exact hFs4.mu (by omega)
      have hLs6 : cwL 350 s6 (upd S (177 + 3 * (sn S 3)) (nI (numK T tn (nxK T tn tk)))) := by rw [es6]; exact hLs4.land (by omega) (by unfold noLand; omega)
      have hDs6 : cwD 300 s6 (upd S (177 + 3 * (sn S 3)) (nI (numK T tn (nxK T tn tk)))) := by rw [es6]; exact hDs4.wroa (by omega) (by omega)
      refine g_pure 6 (i' := 21) (lv' := [some (vR 4), some (vR (322 + sn S 3))]) (st' := [vI 0, vR (322 + sn S 3), vI 0, vR 4, vI 1, vR (322 + sn S 3)]) rfl ?_
      refine g_ald rfl (gA_305 (by omega)) (by decide) (show 0 = nI 0 from (show (0 : Int32) = nI 0 from rfl)) (by decide) (show _ = nI (numK T tn (nxK T tn tk)) from ((hDs6.roa 0 (by omega) (by decide))).trans upd_self) ?_
      by_cases h7 : tkN T tn (nxK T tn (nxK T tn tk)) (sn S 0) (numK T tn (nxK T tn tk))
      · refine gW_eq (st' := [vI (nI (numK T tn (nxK T tn tk))), vI (nI 0), vR 4, vI 1, vR (322 + sn S 3)]) rfl (by rw [(show (0 : Int32) = nI 0 from rfl)]) rfl ?_
        refine g_cV1E rfl (args := [vR 4, vI (nI 0), vI (nI (numK T tn (nxK T tn tk)))]) (rest := [vI 1, vR (322 + sn S 3)]) rfl rfl rfl (s_18a (d := d) hTs6 ((((hDs6.cnt (by decide))).trans (upd_ne (by omega))).trans (hI.c0)) (by omega) (by omega) (by omega) (by assumption)) (fun s8 es8 => ?_)
        have hTs8 := es8.1
        have hFs8 := hFs6.cn es8.2
        have hLs8 : cwL 350 s8 (upd S (177 + 3 * (sn S 3)) (nI (numK T tn (nxK T tn tk)))) := hLs6.eqc (fun c c1 c2 => es8.2.1 c (by omega))
        have hDs8 : cwD 300 s8 (upd S (177 + 3 * (sn S 3)) (nI (numK T tn (nxK T tn tk)))) := hDs6.eqc (fun c c1 => es8.2.1 c (by omega))
        have t9 := (show tkN T tn (nxK T tn (nxK T tn tk)) (sn S 0) (numK T tn (nxK T tn tk)) by assumption).1.2.2.2
        refine g_ast rfl (gA_305 (by omega)) (by decide) (show 1 = nI 1 from (show (1 : Int32) = nI 1 from rfl)) (by decide) ?_
        refine g_setv (fun s10 es10 => ?_)
        have hTs10 : CT T tn (nxK T tn (nxK T tn (nxK T tn tk))) s10 := hTs8.eq (by rw [es10, mu_ne (by omega)]) (by rw [es10, mu_ne (by omega)])
        have hFs10 : FRc sg0 s10 := by rw [es10]; exact hFs8.mu (by omega)
        have hLs10 : cwL 350 s10 (upd (upd S (177 + 3 * (sn S 3)) (nI (numK T tn (nxK T tn tk)))) (177 + 3 * (sn S 3) + 1) (nI (numK T tn (nxK T tn (nxK T tn tk))))) := by rw [es10]; exact hLs8.land (by omega) (by unfold noLand; omega)
        have hDs10 : cwD 300 s10 (upd (upd S (177 + 3 * (sn S 3)) (nI (numK T tn (nxK T tn tk)))) (177 + 3 * (sn S 3) + 1) (nI (numK T tn (nxK T tn (nxK T tn tk))))) := by rw [es10]; exact hDs8.wroa (by omega) (by omega)
        refine g_pure 7 (i' := 31) (lv' := [some (vR 4), some (vR (322 + sn S 3))]) (st' := [vI 5, vI 1, vI 4, vR 1, vI 2, vR (322 + sn S 3)]) rfl ?_
        by_cases h11 : tkP T tn (nxK T tn (nxK T tn (nxK T tn tk))) 4 1 6
        · refine gW_eq (st' := [vI 5, vI (nI 1), vI (nI 4), vR 1, vI 2, vR (322 + sn S 3)]) rfl (by rw [(show (4 : Int32) = nI 4 from rfl), (show (1 : Int32) = nI 1 from rfl)]) rfl ?_
          refine g_cV1E rfl (args := [vR 1, vI (nI 4), vI (nI 1), vI 5]) (rest := [vI 2, vR (322 + sn S 3)]) rfl rfl rfl (s_77a (m := 6) (d := d + 2) hTs10 (by omega) (by omega) (by omega) (show (5 : Int32) = nI 6 - 1 from by decide) (by assumption)) (fun s12 es12 => ?_)
          have hTs12 := es12.1
          have hFs12 := hFs10.cn es12.2
          have hLs12 : cwL 350 s12 (upd (upd S (177 + 3 * (sn S 3)) (nI (numK T tn (nxK T tn tk)))) (177 + 3 * (sn S 3) + 1) (nI (numK T tn (nxK T tn (nxK T tn tk))))) := hLs10.eqc (fun c c1 c2 => es12.2.1 c (by omega))
          have hDs12 : cwD 300 s12 (upd (upd S (177 + 3 * (sn S 3)) (nI (numK T tn (nxK T tn tk)))) (177 + 3 * (sn S 3) + 1) (nI (numK T tn (nxK T tn (nxK T tn tk))))) := hDs10.eqc (fun c c1 => es12.2.1 c (by omega))
          have t13 := (show tkP T tn (nxK T tn (nxK T tn (nxK T tn tk))) 4 1 6 by assumption).2.2
          refine g_ast rfl (gA_305 (by omega)) (by decide) (show 2 = nI 2 from (show (2 : Int32) = nI 2 from rfl)) (by decide) ?_
          refine g_setv (fun s14 es14 => ?_)
          have hTs14 : CT T tn (nxK T tn (nxK T tn (nxK T tn (nxK T tn tk)))) s14 := hTs12.eq (by rw [es14, mu_ne (by omega)]) (by rw [es14, mu_ne (by omega)])
          have hFs14 : FRc sg0 s14 := by rw [es14]; exact hFs12.mu (by omega)
          have hLs14 : cwL 350 s14 (upd (upd (upd S (177 + 3 * (sn S 3)) (nI (numK T tn (nxK T tn tk)))) (177 + 3 * (sn S 3) + 1) (nI (numK T tn (nxK T tn (nxK T tn tk))))) (177 + 3 * (sn S 3) + 2) (nI (numK T tn (nxK T tn (nxK T tn (nxK T tn tk)))))) := by rw [es14]; exact hLs12.land (by omega) (by unfold noLand; omega)
          have hDs14 : cwD 300 s14 (upd (upd (upd S (177 + 3 * (sn S 3)) (nI (numK T tn (nxK T tn tk)))) (177 + 3 * (sn S 3) + 1) (nI (numK T tn (nxK T tn (nxK T tn tk))))) (177 + 3 * (sn S 3) + 2) (nI (numK T tn (nxK T tn (nxK T tn (nxK T tn tk)))))) := by rw [es14]; exact hDs12.wroa (by omega) (by omega)
          refine g_pure 5 (i' := 38) (lv' := [some (vR 4), some (vR (322 + sn S 3))]) (st' := [vI 3, vR 303, vI 3, vR 303]) rfl ?_
          refine g_ald rfl (g_A (a := 303) (kd := 1) (n := 6) rfl (by decide)) (by decide) (show 3 = nI 3 from (show (3 : Int32) = nI 3 from rfl)) (by decide) (show _ = S 3 from ((((hDs14.cnt (by decide))).trans (upd_ne (by omega))).trans (upd_ne (by omega))).trans (upd_ne (by omega))) ?_
          refine g_pure 2 (i' := 41) (lv' := [some (vR 4), some (vR (322 + sn S 3))]) (st' := [vI (S 3 + 1), vI 3, vR 303]) rfl ?_
          refine gW_eq (lv' := [some (vR 4), some (vR (322 + sn S 3))]) (st' := [vI (nI (sn S 3 + 1)), vI 3, vR 303]) rfl (by rw [(show (S 3 + 1) = nI (sn S 3 + 1) from ((g_add (hI.c3) (show (1 : Int32) = nI 1 from rfl))).trans (congrArg nI (by omega)))]) rfl ?_
          refine g_ast rfl (g_A (a := 303) (kd := 1) (n := 6) rfl (by decide)) (by decide) (show 3 = nI 3 from (show (3 : Int32) = nI 3 from rfl)) (by decide) ?_
          refine g_setv (fun s15 es15 => ?_)
          have hTs15 : CT T tn (nxK T tn (nxK T tn (nxK T tn (nxK T tn tk)))) s15 := hTs14.eq (by rw [es15, mu_ne (by omega)]) (by rw [es15, mu_ne (by omega)])
          have hFs15 : FRc sg0 s15 := by rw [es15]; exact hFs14.mu (by omega)
          have hLs15 : cwL 350 s15 (upd (upd (upd (upd S (177 + 3 * (sn S 3)) (nI (numK T tn (nxK T tn tk)))) (177 + 3 * (sn S 3) + 1) (nI (numK T tn (nxK T tn (nxK T tn tk))))) (177 + 3 * (sn S 3) + 2) (nI (numK T tn (nxK T tn (nxK T tn (nxK T tn tk)))))) 3 (nI (sn S 3 + 1))) := by rw [es15]; exact hLs14.land (by omega) (by unfold noLand; omega)
          have hDs15 : cwD 300 s15 (upd (upd (upd (upd S (177 + 3 * (sn S 3)) (nI (numK T tn (nxK T tn tk)))) (177 + 3 * (sn S 3) + 1) (nI (numK T tn (nxK T tn (nxK T tn tk))))) (177 + 3 * (sn S 3) + 2) (nI (numK T tn (nxK T tn (nxK T tn (nxK T tn tk)))))) 3 (nI (sn S 3 + 1))) := by rw [es15]; exact hDs14.wcnt (by decide)
          refine g_vret rfl ?_
          exact o1 h1 s2 es2 h3 s4 es4 s6 es6 h7 s8 es8 s10 es10 h11 s12 es12 s14 es14 s15 es15 hTs15 hFs15 hLs15 hDs15
        · refine gW_eq (st' := [vI 5, vI (nI 1), vI (nI 4), vR 1, vI 2, vR (322 + sn S 3)]) rfl (by rw [(show (4 : Int32) = nI 4 from rfl), (show (1 : Int32) = nI 1 from rfl)]) rfl ?_
          refine g_cVxE rfl (args := [vR 1, vI (nI 4), vI (nI 1), vI 5]) (rest := [vI 2, vR (322 + sn S 3)]) rfl rfl rfl (s_77b (m := 6) (d := d + 2) hTs10 (by omega) (by omega) (by omega) (show (5 : Int32) = nI 6 - 1 from by decide) (by assumption)) (fun s16 es16 => ?_)
          exact o2 h1 s2 es2 h3 s4 es4 s6 es6 h7 s8 es8 s10 es10 h11 s16 es16 hTs10 hFs10 hLs10 hDs10
      · refine gW_eq (st' := [vI (nI (numK T tn (nxK T tn tk))), vI (nI 0), vR 4, vI 1, vR (322 + sn S 3)]) rfl (by rw [(show (0 : Int32) = nI 0 from rfl)]) rfl ?_
        refine g_cVxE rfl (args := [vR 4, vI (nI 0), vI (nI (numK T tn (nxK T tn tk)))]) (rest := [vI 1, vR (322 + sn S 3)]) rfl rfl rfl (s_18b (d := d) hTs6 ((((hDs6.cnt (by decide))).trans (upd_ne (by omega))).trans (hI.c0)) (by omega) (by omega) (by omega) (by assumption)) (fun s17 es17 => ?_)
        exact o3 h1 s2 es2 h3 s4 es4 s6 es6 h7 s17 es17 hTs6 hFs6 hLs6 hDs6
    · refine gW_eq (st' := [vI (nI 0), vR 4, vI 0, vR (322 + sn S 3)]) rfl (by rw [(show (0 : Int32) = nI 0 from rfl)]) rfl ?_
      refine g_cVxE rfl (args := [vR 4, vI (nI 0)]) (rest := [vI 0, vR (322 + sn S 3)]) rfl rfl rfl (s_15b (d := d + 1) hTs2 (((hDs2.cnt (by decide))).trans (hI.c0)) (by omega) (by omega) (by assumption)) (fun s18 es18 => ?_)
      exact o4 h1 s2 es2 h3 s18 es18 hTs2 hFs2 hLs2 hDs2
  · refine gW_eq (st' := [vI (nI 12), vI (nI 3), vR 4, vR 305]) rfl (by rw [(show (3 : Int32) = nI 3 from rfl), (show (12 : Int32) = nI 12 from rfl)]) rfl ?_
    refine g_cVxE rfl (args := [vR 4, vI (nI 3), vI (nI 12)]) (rest := [vR 305]) rfl rfl rfl (s_11b (d := d + 2) hT (((hD.cnt (by decide))).trans (hI.c3)) (by omega) (by omega) (by omega) (by assumption)) (fun s19 es19 => ?_)
    exact o5 h1 s19 es19 hT hF hL hD

noncomputable def prRoa (T : Nat → Int32) (n k : Nat) (S : Nat → Int32) : PRs := (sel (sn S 3 < 12) (sel (tkP T n (nxK T n k) 4 0 (sn S 0)) (sel (tkN T n (nxK T n (nxK T n k)) (sn S 0) (numK T n (nxK T n k))) (sel (tkP T n (nxK T n (nxK T n (nxK T n k))) 4 1 6) (.inr (nxK T n (nxK T n (nxK T n (nxK T n k))), (upd (upd (upd (upd S (177 + 3 * (sn S 3)) (nI (numK T n (nxK T n k)))) (177 + 3 * (sn S 3) + 1) (nI (numK T n (nxK T n (nxK T n k))))) (177 + 3 * (sn S 3) + 2) (nI (numK T n (nxK T n (nxK T n (nxK T n k)))))) 3 (nI (sn S 3 + 1))))) (.inl (spK T n (nxK T n (nxK T n (nxK T n k)))))) (.inl (spK T n (nxK T n (nxK T n k))))) (.inl (spK T n (nxK T n k)))) (.inl (spK T n k)))

theorem s_17 {X : Nat × (Nat → Int32)} {d : Nat} {p : Nat → Nat} {sg : Mg} {B : Nat} {S : Nat → Int32} (hI : Inv B S) (hL : cwL 350 sg S) (hD : cwD 300 sg S) {T : Nat → Int32} {tn tk : Nat} (hT : CT T tn tk sg) : gF X (d + 5) 17 [vR 4] p sg (lnC (prRoa T tn tk S) T tn sg p) := by
  refine g_in (cd := k_17) (nL := 2) (rc := 2) rfl (g_A (a := 4) (kd := 0) (n := 1) rfl (by decide)) (g_c1 rfl) (b_17_0 hI hL hD hT (FRc.rf sg) ?_ ?_ ?_ ?_ ?_)
  · intro h0 s1 e1 h2 s3 e3 s4 e4 h5 s6 e6 s7 e7 h8 s9 e9 s10 e10 s11 e11 cT cF cL cD
    unfold prRoa
    rw [sel_t h0, sel_t h2, sel_t h5, sel_t h8]
    exact ⟨_, ⟨cF, cT, cL, cD⟩, rfl⟩
  · intro h0 s1 e1 h2 s3 e3 s4 e4 h5 s6 e6 s7 e7 h8 s9 e9 cT cF cL cD
    unfold prRoa
    rw [sel_t h0, sel_t h2, sel_t h5, sel_f h8]
    exact LF.of cF e9
  · intro h0 s1 e1 h2 s3 e3 s4 e4 h5 s6 e6 cT cF cL cD
    unfold prRoa
    rw [sel_t h0, sel_t h2, sel_f h5]
    exact LF.of cF e6
  · intro h0 s1 e1 h2 s3 e3 cT cF cL cD
    unfold prRoa
    rw [sel_t h0, sel_f h2]
    exact LF.of cF e3
  · intro h0 s1 e1 cT cF cL cD
    unfold prRoa
    rw [sel_f h0]
    exact LF.of cF e1

theorem b_19_0 {X : Nat × (Nat → Int32)} {d : Nat} {p : Nat → Nat} {sg : Mg} {Q : am_R → Prop} {B : Nat} {S : Nat → Int32} (hI : Inv B S) (hL : cwL 350 sg S) (hD : cwD 300 sg S) {T : Nat → Int32} {tn tk : Nat} (hT : CT T tn tk sg) {sg0 : Mg} (hF : FRc sg0 sg)
    (o1 : (sn S 4 < 8) → ∀ s2 : Mg, (CT T tn (nxK T tn tk) s2 ∧ CN sg s2) → (tkP T tn (nxK T tn tk) 4 0 (sn S 1)) → ∀ s4 : Mg, (CT T tn (nxK T tn (nxK T tn tk)) s4 ∧ CN s2 s4) → ∀ s6 : Mg, s6 = mu s4 (334 + sn S 4) 0 (nI (numK T tn (nxK T tn tk))) → (tkN T tn (nxK T tn (nxK T tn tk)) (sn S 1) (numK T tn (nxK T tn tk))) → ∀ s8 : Mg, (CT T tn (nxK T tn (nxK T tn (nxK T tn tk))) s8 ∧ CN s6 s8) → ∀ s10 : Mg, s10 = mu s8 (334 + sn S 4) 1 (nI (numK T tn (nxK T tn (nxK T tn tk)))) → (tkP T tn (nxK T tn (nxK T tn (nxK T tn tk))) 4 1 1000) → ∀ s12 : Mg, (CT T tn (nxK T tn (nxK T tn (nxK T tn (nxK T tn tk)))) s12 ∧ CN s10 s12) → ∀ s14 : Mg, s14 = mu s12 (334 + sn S 4) 2 (nI (numK T tn (nxK T tn (nxK T tn (nxK T tn tk))))) → (isW T tn (nxK T tn (nxK T tn (nxK T tn (nxK T tn tk)))) (am_SL 7)) → ∀ s16 : Mg, (CT T tn (nxK T tn (nxK T tn (nxK T tn (nxK T tn (nxK T tn tk))))) s16 ∧ CN s14 s16) → (tkP T tn (nxK T tn (nxK T tn (nxK T tn (nxK T tn (nxK T tn tk))))) 4 0 (sn S 0)) → ∀ s18 : Mg, (CT T tn (nxK T tn (nxK T tn (nxK T tn (nxK T tn (nxK T tn (nxK T tn tk)))))) s18 ∧ CN s16 s18) → ∀ s20 : Mg, s20 = mu s18 (334 + sn S 4) 3 (nI (numK T tn (nxK T tn (nxK T tn (nxK T tn (nxK T tn (nxK T tn tk))))))) → (isW T tn (nxK T tn (nxK T tn (nxK T tn (nxK T tn (nxK T tn (nxK T tn tk)))))) (am_SL 8)) → ∀ s22 : Mg, (CT T tn (nxK T tn (nxK T tn (nxK T tn (nxK T tn (nxK T tn (nxK T tn (nxK T tn tk))))))) s22 ∧ CN s20 s22) → (tkP T tn (nxK T tn (nxK T tn (nxK T tn (nxK T tn (nxK T tn (nxK T tn (nxK T tn tk))))))) 4 0 (sn S 9)) → ∀ s24 : Mg, (CT T tn (nxK T tn (nxK T tn (nxK T tn (nxK T tn (nxK T tn (nxK T tn (nxK T tn (nxK T tn tk)))))))) s24 ∧ CN s22 s24) → ∀ s26 : Mg, s26 = mu s24 (334 + sn S 4) 4 (nI (numK T tn (nxK T tn (nxK T tn (nxK T tn (nxK T tn (nxK T tn (nxK T tn (nxK T tn tk))))))))) → (isW T tn (nxK T tn (nxK T tn (nxK T tn (nxK T tn (nxK T tn (nxK T tn (nxK T tn (nxK T tn tk)))))))) (am_SL 9)) → ∀ s28 : Mg, (CT T tn (nxK T tn (nxK T tn (nxK T tn (nxK T tn (nxK T tn (nxK T tn (nxK T tn (nxK T tn (nxK T tn tk))))))))) s28 ∧ CN s26 s28) → (tkN T tn (nxK T tn (nxK T tn (nxK T tn (nxK T tn (nxK T tn (nxK T tn (nxK T tn (nxK T tn (nxK T tn tk))))))))) (sn S 9) (numK T tn (nxK T tn (nxK T tn (nxK T tn (nxK T tn (nxK T tn (nxK T tn (nxK T tn tk))))))))) → ∀ s30 : Mg, (CT T tn (nxK T tn (nxK T tn (nxK T tn (nxK T tn (nxK T tn (nxK T tn (nxK T tn (nxK T tn (nxK T tn (nxK T tn tk)))))))))) s30 ∧ CN s28 s30) → ∀ s32 : Mg, s32 = mu s30 (334 + sn S 4) 5 (nI (numK T tn (nxK T tn (nxK T tn (nxK T tn (nxK T tn (nxK T tn (nxK T tn (nxK T tn (nxK T tn (nxK T tn tk))))))))))) → ∀ s33 : Mg, s33 = mu s32 358 (sn S 4) 0 → ∀ s34 : Mg, s34 = mu s33 303 4 (nI (sn S 4 + 1)) → CT T tn (nxK T tn (nxK T tn (nxK T tn (nxK T tn (nxK T tn (nxK T tn (nxK T tn (nxK T tn (nxK T tn (nxK T tn tk)))))))))) s34 → FRc sg0 s34 → cwL 350 s34 (upd (upd (upd (upd (upd (upd (upd (upd S (213 + 7 * (sn S 4)) (nI (numK T tn (nxK T tn tk)))) (213 + 7 * (sn S 4) + 1) (nI (numK T tn (nxK T tn (nxK T tn tk))))) (213 + 7 * (sn S 4) + 2) (nI (numK T tn (nxK T tn (nxK T tn (nxK T tn tk)))))) (213 + 7 * (sn S 4) + 3) (nI (numK T tn (nxK T tn (nxK T tn (nxK T tn (nxK T tn (nxK T tn tk)))))))) (213 + 7 * (sn S 4) + 4) (nI (numK T tn (nxK T tn (nxK T tn (nxK T tn (nxK T tn (nxK T tn (nxK T tn (nxK T tn tk)))))))))) (213 + 7 * (sn S 4) + 5) (nI (numK T tn (nxK T tn (nxK T tn (nxK T tn (nxK T tn (nxK T tn (nxK T tn (nxK T tn (nxK T tn (nxK T tn tk)))))))))))) (213 + 7 * (sn S 4) + 6) 0) 4 (nI (sn S 4 + 1))) → cwD 300 s34 (upd (upd (upd (upd (upd (upd (upd (upd S (213 + 7 * (sn S 4)) (nI (numK T tn (nxK T tn tk)))) (213 + 7 * (sn S 4) + 1) (nI (numK T tn (nxK T tn (nxK T tn tk))))) (213 + 7 * (sn S 4) + 2) (nI (numK T tn (nxK T tn (nxK T tn (nxK T tn tk)))))) (213 + 7 * (sn S 4) + 3) (nI (numK T tn (nxK T tn (nxK T tn (nxK T tn (nxK T tn (nxK T tn tk)))))))) (213 + 7 * (sn S 4) + 4) (nI (numK T tn (nxK T tn (nxK T tn (nxK T tn (nxK T tn (nxK T tn (nxK T tn (nxK T tn tk)))))))))) (213 + 7 * (sn S 4) + 5) (nI (numK T tn (nxK T tn (nxK T tn (nxK T tn (nxK T tn (nxK T tn (nxK T tn (nxK T tn (nxK T tn (nxK T tn tk)))))))))))) (213 + 7 * (sn S 4) + 6) 0) 4 (nI (sn S 4 + 1))) → Q (gR0 p s34))
    (o2 : (sn S 4 < 8) → ∀ s2 : Mg, (CT T tn (nxK T tn tk) s2 ∧ CN sg s2) → (tkP T tn (nxK T tn tk) 4 0 (sn S 1)) → ∀ s4 : Mg, (CT T tn (nxK T tn (nxK T tn tk)) s4 ∧ CN s2 s4) → ∀ s6 : Mg, s6 = mu s4 (334 + sn S 4) 0 (nI (numK T tn (nxK T tn tk))) → (tkN T tn (nxK T tn (nxK T tn tk)) (sn S 1) (numK T tn (nxK T tn tk))) → ∀ s8 : Mg, (CT T tn (nxK T tn (nxK T tn (nxK T tn tk))) s8 ∧ CN s6 s8) → ∀ s10 : Mg, s10 = mu s8 (334 + sn S 4) 1 (nI (numK T tn (nxK T tn (nxK T tn tk)))) → (tkP T tn (nxK T tn (nxK T tn (nxK T tn tk))) 4 1 1000) → ∀ s12 : Mg, (CT T tn (nxK T tn (nxK T tn (nxK T tn (nxK T tn tk)))) s12 ∧ CN s10 s12) → ∀ s14 : Mg, s14 = mu s12 (334 + sn S 4) 2 (nI (numK T tn (nxK T tn (nxK T tn (nxK T tn tk))))) → (isW T tn (nxK T tn (nxK T tn (nxK T tn (nxK T tn tk)))) (am_SL 7)) → ∀ s16 : Mg, (CT T tn (nxK T tn (nxK T tn (nxK T tn (nxK T tn (nxK T tn tk))))) s16 ∧ CN s14 s16) → (tkP T tn (nxK T tn (nxK T tn (nxK T tn (nxK T tn (nxK T tn tk))))) 4 0 (sn S 0)) → ∀ s18 : Mg, (CT T tn (nxK T tn (nxK T tn (nxK T tn (nxK T tn (nxK T tn (nxK T tn tk)))))) s18 ∧ CN s16 s18) → ∀ s20 : Mg, s20 = mu s18 (334 + sn S 4) 3 (nI (numK T tn (nxK T tn (nxK T tn (nxK T tn (nxK T tn (nxK T tn tk))))))) → (isW T tn (nxK T tn (nxK T tn (nxK T tn (nxK T tn (nxK T tn (nxK T tn tk)))))) (am_SL 8)) → ∀ s22 : Mg, (CT T tn (nxK T tn (nxK T tn (nxK T tn (nxK T tn (nxK T tn (nxK T tn (nxK T tn tk))))))) s22 ∧ CN s20 s22) → (tkP T tn (nxK T tn (nxK T tn (nxK T tn (nxK T tn (nxK T tn (nxK T tn (nxK T tn tk))))))) 4 0 (sn S 9)) → ∀ s24 : Mg, (CT T tn (nxK T tn (nxK T tn (nxK T tn (nxK T tn (nxK T tn (nxK T tn (nxK T tn (nxK T tn tk)))))))) s24 ∧ CN s22 s24) → ∀ s26 : Mg, s26 = mu s24 (334 + sn S 4) 4 (nI (numK T tn (nxK T tn (nxK T tn (nxK T tn (nxK T tn (nxK T tn (nxK T tn (nxK T tn tk))))))))) → (isW T tn (nxK T tn (nxK T tn (nxK T tn (nxK T tn (nxK T tn (nxK T tn (nxK T tn (nxK T tn tk)))))))) (am_SL 9)) → ∀ s28 : Mg, (CT T tn (nxK T tn (nxK T tn (nxK T tn (nxK T tn (nxK T tn (nxK T tn (nxK T tn (nxK T tn (nxK T tn tk))))))))) s28 ∧ CN s26 s28) → (¬ tkN T tn (nxK T tn (nxK T tn (nxK T tn (nxK T tn (nxK T tn (nxK T tn (nxK T tn (nxK T tn (nxK T tn tk))))))))) (sn S 9) (numK T tn (nxK T tn (nxK T tn (nxK T tn (nxK T tn (nxK T tn (nxK T tn (nxK T tn tk))))))))) → ∀ s35 : Mg, (CF (spK T tn (nxK T tn (nxK T tn (nxK T tn (nxK T tn (nxK T tn (nxK T tn (nxK T tn (nxK T tn (nxK T tn tk)))))))))) s28 s35) → CT T tn (nxK T tn (nxK T tn (nxK T tn (nxK T tn (nxK T tn (nxK T tn (nxK T tn (nxK T tn (nxK T tn tk))))))))) s28 → FRc sg0 s28 → cwL 350 s28 (upd (upd (upd (upd (upd S (213 + 7 * (sn S 4)) (nI (numK T tn (nxK T tn tk)))) (213 + 7 * (sn S 4) + 1) (nI (numK T tn (nxK T tn (nxK T tn tk))))) (213 + 7 * (sn S 4) + 2) (nI (numK T tn (nxK T tn (nxK T tn (nxK T tn tk)))))) (213 + 7 * (sn S 4) + 3) (nI (numK T tn (nxK T tn (nxK T tn (nxK T tn (nxK T tn (nxK T tn tk)))))))) (213 + 7 * (sn S 4) + 4) (nI (numK T tn (nxK T tn (nxK T tn (nxK T tn (nxK T tn (nxK T tn (nxK T tn (nxK T tn tk)))))))))) → cwD 300 s28 (upd (upd (upd (upd (upd S (213 + 7 * (sn S 4)) (nI (numK T tn (nxK T tn tk)))) (213 + 7 * (sn S 4) + 1) (nI (numK T tn (nxK T tn (nxK T tn tk))))) (213 + 7 * (sn S 4) + 2) (nI (numK T tn (nxK T tn (nxK T tn (nxK T tn tk)))))) (213 + 7 * (sn S 4) + 3) (nI (numK T tn (nxK T tn (nxK T tn (nxK T tn (nxK T tn (nxK T tn tk)))))))) (213 + 7 * (sn S 4) + 4) (nI (numK T tn (nxK T tn (nxK T tn (nxK T tn (nxK T tn (nxK T tn (nxK T tn (nxK T tn tk)))))))))) → Q (gRx p s35 0))
    (o3 : (sn S 4 < 8) → ∀ s2 : Mg, (CT T tn (nxK T tn tk) s2 ∧ CN sg s2) → (tkP T tn (nxK T tn tk) 4 0 (sn S 1)) → ∀ s4 : Mg, (CT T tn (nxK T tn (nxK T tn tk)) s4 ∧ CN s2 s4) → ∀ s6 : Mg, s6 = mu s4 (334 + sn S 4) 0 (nI (numK T tn (nxK T tn tk))) → (tkN T tn (nxK T tn (nxK T tn tk)) (sn S 1) (numK T tn (nxK T tn tk))) → ∀ s8 : Mg, (CT T tn (nxK T tn (nxK T tn (nxK T tn tk))) s8 ∧ CN s6 s8) → ∀ s10 : Mg, s10 = mu s8 (334 + sn S 4) 1 (nI (numK T tn (nxK T tn (nxK T tn tk)))) → (tkP T tn (nxK T tn (nxK T tn (nxK T tn tk))) 4 1 1000) → ∀ s12 : Mg, (CT T tn (nxK T tn (nxK T tn (nxK T tn (nxK T tn tk)))) s12 ∧ CN s10 s12) → ∀ s14 : Mg, s14 = mu s12 (334 + sn S 4) 2 (nI (numK T tn (nxK T tn (nxK T tn (nxK T tn tk))))) → (isW T tn (nxK T tn (nxK T tn (nxK T tn (nxK T tn tk)))) (am_SL 7)) → ∀ s16 : Mg, (CT T tn (nxK T tn (nxK T tn (nxK T tn (nxK T tn (nxK T tn tk))))) s16 ∧ CN s14 s16) → (tkP T tn (nxK T tn (nxK T tn (nxK T tn (nxK T tn (nxK T tn tk))))) 4 0 (sn S 0)) → ∀ s18 : Mg, (CT T tn (nxK T tn (nxK T tn (nxK T tn (nxK T tn (nxK T tn (nxK T tn tk)))))) s18 ∧ CN s16 s18) → ∀ s20 : Mg, s20 = mu s18 (334 + sn S 4) 3 (nI (numK T tn (nxK T tn (nxK T tn (nxK T tn (nxK T tn (nxK T tn tk))))))) → (isW T tn (nxK T tn (nxK T tn (nxK T tn (nxK T tn (nxK T tn (nxK T tn tk)))))) (am_SL 8)) → ∀ s22 : Mg, (CT T tn (nxK T tn (nxK T tn (nxK T tn (nxK T tn (nxK T tn (nxK T tn (nxK T tn tk))))))) s22 ∧ CN s20 s22) → (tkP T tn (nxK T tn (nxK T tn (nxK T tn (nxK T tn (nxK T tn (nxK T tn (nxK T tn tk))))))) 4 0 (sn S 9)) → ∀ s24 : Mg, (CT T tn (nxK T tn (nxK T tn (nxK T tn (nxK T tn (nxK T tn (nxK T tn (nxK T tn (nxK T tn tk)))))))) s24 ∧ CN s22 s24) → ∀ s26 : Mg, s26 = mu s24 (334 + sn S 4) 4 (nI (numK T tn (nxK T tn (nxK T tn (nxK T tn (nxK T tn (nxK T tn (nxK T tn (nxK T tn tk))))))))) → (¬ isW T tn (nxK T tn (nxK T tn (nxK T tn (nxK T tn (nxK T tn (nxK T tn (nxK T tn (nxK T tn tk)))))))) (am_SL 9)) → ∀ s36 : Mg, (CF (spK T tn (nxK T tn (nxK T tn (nxK T tn (nxK T tn (nxK T tn (nxK T tn (nxK T tn (nxK T tn tk))))))))) s26 s36) → CT T tn (nxK T tn (nxK T tn (nxK T tn (nxK T tn (nxK T tn (nxK T tn (nxK T tn (nxK T tn tk)))))))) s26 → FRc sg0 s26 → cwL 350 s26 (upd (upd (upd (upd (upd S (213 + 7 * (sn S 4)) (nI (numK T tn (nxK T tn tk)))) (213 + 7 * (sn S 4) + 1) (nI (numK T tn (nxK T tn (nxK T tn tk))))) (213 + 7 * (sn S 4) + 2) (nI (numK T tn (nxK T tn (nxK T tn (nxK T tn tk)))))) (213 + 7 * (sn S 4) + 3) (nI (numK T tn (nxK T tn (nxK T tn (nxK T tn (nxK T tn (nxK T tn tk)))))))) (213 + 7 * (sn S 4) + 4) (nI (numK T tn (nxK T tn (nxK T tn (nxK T tn (nxK T tn (nxK T tn (nxK T tn (nxK T tn tk)))))))))) → cwD 300 s26 (upd (upd (upd (upd (upd S (213 + 7 * (sn S 4)) (nI (numK T tn (nxK T tn tk)))) (213 + 7 * (sn S 4) + 1) (nI (numK T tn (nxK T tn (nxK T tn tk))))) (213 + 7 * (sn S 4) + 2) (nI (numK T tn (nxK T tn (nxK T tn (nxK T tn tk)))))) (213 + 7 * (sn S 4) + 3) (nI (numK T tn (nxK T tn (nxK T tn (nxK T tn (nxK T tn (nxK T tn tk)))))))) (213 + 7 * (sn S 4) + 4) (nI (numK T tn (nxK T tn (nxK T tn (nxK T tn (nxK T tn (nxK T tn (nxK T tn (nxK T tn tk)))))))))) → Q (gRx p s36 0))
    (o4 : (sn S 4 < 8) → ∀ s2 : Mg, (CT T tn (nxK T tn tk) s2 ∧ CN sg s2) → (tkP T tn (nxK T tn tk) 4 0 (sn S 1)) → ∀ s4 : Mg, (CT T tn (nxK T tn (nxK T tn tk)) s4 ∧ CN s2 s4) → ∀ s6 : Mg, s6 = mu s4 (334 + sn S 4) 0 (nI (numK T tn (nxK T tn tk))) → (tkN T tn (nxK T tn (nxK T tn tk)) (sn S 1) (numK T tn (nxK T tn tk))) → ∀ s8 : Mg, (CT T tn (nxK T tn (nxK T tn (nxK T tn tk))) s8 ∧ CN s6 s8) → ∀ s10 : Mg, s10 = mu s8 (334 + sn S 4) 1 (nI (numK T tn (nxK T tn (nxK T tn tk)))) → (tkP T tn (nxK T tn (nxK T tn (nxK T tn tk))) 4 1 1000) → ∀ s12 : Mg, (CT T tn (nxK T tn (nxK T tn (nxK T tn (nxK T tn tk)))) s12 ∧ CN s10 s12) → ∀ s14 : Mg, s14 = mu s12 (334 + sn S 4) 2 (nI (numK T tn (nxK T tn (nxK T tn (nxK T tn tk))))) → (isW T tn (nxK T tn (nxK T tn (nxK T tn (nxK T tn tk)))) (am_SL 7)) → ∀ s16 : Mg, (CT T tn (nxK T tn (nxK T tn (nxK T tn (nxK T tn (nxK T tn tk))))) s16 ∧ CN s14 s16) → (tkP T tn (nxK T tn (nxK T tn (nxK T tn (nxK T tn (nxK T tn tk))))) 4 0 (sn S 0)) → ∀ s18 : Mg, (CT T tn (nxK T tn (nxK T tn (nxK T tn (nxK T tn (nxK T tn (nxK T tn tk)))))) s18 ∧ CN s16 s18) → ∀ s20 : Mg, s20 = mu s18 (334 + sn S 4) 3 (nI (numK T tn (nxK T tn (nxK T tn (nxK T tn (nxK T tn (nxK T tn tk))))))) → (isW T tn (nxK T tn (nxK T tn (nxK T tn (nxK T tn (nxK T tn (nxK T tn tk)))))) (am_SL 8)) → ∀ s22 : Mg, (CT T tn (nxK T tn (nxK T tn (nxK T tn (nxK T tn (nxK T tn (nxK T tn (nxK T tn tk))))))) s22 ∧ CN s20 s22) → (¬ tkP T tn (nxK T tn (nxK T tn (nxK T tn (nxK T tn (nxK T tn (nxK T tn (nxK T tn tk))))))) 4 0 (sn S 9)) → ∀ s37 : Mg, (CF (spK T tn (nxK T tn (nxK T tn (nxK T tn (nxK T tn (nxK T tn (nxK T tn (nxK T tn tk)))))))) s22 s37) → CT T tn (nxK T tn (nxK T tn (nxK T tn (nxK T tn (nxK T tn (nxK T tn (nxK T tn tk))))))) s22 → FRc sg0 s22 → cwL 350 s22 (upd (upd (upd (upd S (213 + 7 * (sn S 4)) (nI (numK T tn (nxK T tn tk)))) (213 + 7 * (sn S 4) + 1) (nI (numK T tn (nxK T tn (nxK T tn tk))))) (213 + 7 * (sn S 4) + 2) (nI (numK T tn (nxK T tn (nxK T tn (nxK T tn tk)))))) (213 + 7 * (sn S 4) + 3) (nI (numK T tn (nxK T tn (nxK T tn (nxK T tn (nxK T tn (nxK T tn tk)))))))) → cwD 300 s22 (upd (upd (upd (upd S (213 + 7 * (sn S 4)) (nI (numK T tn (nxK T tn tk)))) (213 + 7 * (sn S 4) + 1) (nI (numK T tn (nxK T tn (nxK T tn tk))))) (213 + 7 * (sn S 4) + 2) (nI (numK T tn (nxK T tn (nxK T tn (nxK T tn tk)))))) (213 + 7 * (sn S 4) + 3) (nI (numK T tn (nxK T tn (nxK T tn (nxK T tn (nxK T tn (nxK T tn tk)))))))) → Q (gRx p s37 0))
    (o5 : (sn S 4 < 8) → ∀ s2 : Mg, (CT T tn (nxK T tn tk) s2 ∧ CN sg s2) → (tkP T tn (nxK T tn tk) 4 0 (sn S 1)) → ∀ s4 : Mg, (CT T tn (nxK T tn (nxK T tn tk)) s4 ∧ CN s2 s4) → ∀ s6 : Mg, s6 = mu s4 (334 + sn S 4) 0 (nI (numK T tn (nxK T tn tk))) → (tkN T tn (nxK T tn (nxK T tn tk)) (sn S 1) (numK T tn (nxK T tn tk))) → ∀ s8 : Mg, (CT T tn (nxK T tn (nxK T tn (nxK T tn tk))) s8 ∧ CN s6 s8) → ∀ s10 : Mg, s10 = mu s8 (334 + sn S 4) 1 (nI (numK T tn (nxK T tn (nxK T tn tk)))) → (tkP T tn (nxK T tn (nxK T tn (nxK T tn tk))) 4 1 1000) → ∀ s12 : Mg, (CT T tn (nxK T tn (nxK T tn (nxK T tn (nxK T tn tk)))) s12 ∧ CN s10 s12) → ∀ s14 : Mg, s14 = mu s12 (334 + sn S 4) 2 (nI (numK T tn (nxK T tn (nxK T tn (nxK T tn tk))))) → (isW T tn (nxK T tn (nxK T tn (nxK T tn (nxK T tn tk)))) (am_SL 7)) → ∀ s16 : Mg, (CT T tn (nxK T tn (nxK T tn (nxK T tn (nxK T tn (nxK T tn tk))))) s16 ∧ CN s14 s16) → (tkP T tn (nxK T tn (nxK T tn (nxK T tn (nxK T tn (nxK T tn tk))))) 4 0 (sn S 0)) → ∀ s18 : Mg, (CT T tn (nxK T tn (nxK T tn (nxK T tn (nxK T tn (nxK T tn (nxK T tn tk)))))) s18 ∧ CN s16 s18) → ∀ s20 : Mg, s20 = mu s18 (334 + sn S 4) 3 (nI (numK T tn (nxK T tn (nxK T tn (nxK T tn (nxK T tn (nxK T tn tk))))))) → (¬ isW T tn (nxK T tn (nxK T tn (nxK T tn (nxK T tn (nxK T tn (nxK T tn tk)))))) (am_SL 8)) → ∀ s38 : Mg, (CF (spK T tn (nxK T tn (nxK T tn (nxK T tn (nxK T tn (nxK T tn (nxK T tn tk))))))) s20 s38) → CT T tn (nxK T tn (nxK T tn (nxK T tn (nxK T tn (nxK T tn (nxK T tn tk)))))) s20 → FRc sg0 s20 → cwL 350 s20 (upd (upd (upd (upd S (213 + 7 * (sn S 4)) (nI (numK T tn (nxK T tn tk)))) (213 + 7 * (sn S 4) + 1) (nI (numK T tn (nxK T tn (nxK T tn tk))))) (213 + 7 * (sn S 4) + 2) (nI (numK T tn (nxK T tn (nxK T tn (nxK T tn tk)))))) (213 + 7 * (sn S 4) + 3) (nI (numK T tn (nxK T tn (nxK T tn (nxK T tn (nxK T tn (nxK T tn tk)))))))) → cwD 300 s20 (upd (upd (upd (upd S (213 + 7 * (sn S 4)) (nI (numK T tn (nxK T tn tk)))) (213 + 7 * (sn S 4) + 1) (nI (numK T tn (nxK T tn (nxK T tn tk))))) (213 + 7 * (sn S 4) + 2) (nI (numK T tn (nxK T tn (nxK T tn (nxK T tn tk)))))) (213 + 7 * (sn S 4) + 3) (nI (numK T tn (nxK T tn (nxK T tn (nxK T tn (nxK T tn (nxK T tn tk)))))))) → Q (gRx p s38 0))
    (o6 : (sn S 4 < 8) → ∀ s2 : Mg, (CT T tn (nxK T tn tk) s2 ∧ CN sg s2) → (tkP T tn (nxK T tn tk) 4 0 (sn S 1)) → ∀ s4 : Mg, (CT T tn (nxK T tn (nxK T tn tk)) s4 ∧ CN s2 s4) → ∀ s6 : Mg, s6 = mu s4 (334 + sn S 4) 0 (nI (numK T tn (nxK T tn tk))) → (tkN T tn (nxK T tn (nxK T tn tk)) (sn S 1) (numK T tn (nxK T tn tk))) → ∀ s8 : Mg, (CT T tn (nxK T tn (nxK T tn (nxK T tn tk))) s8 ∧ CN s6 s8) → ∀ s10 : Mg, s10 = mu s8 (334 + sn S 4) 1 (nI (numK T tn (nxK T tn (nxK T tn tk)))) → (tkP T tn (nxK T tn (nxK T tn (nxK T tn tk))) 4 1 1000) → ∀ s12 : Mg, (CT T tn (nxK T tn (nxK T tn (nxK T tn (nxK T tn tk)))) s12 ∧ CN s10 s12) → ∀ s14 : Mg, s14 = mu s12 (334 + sn S 4) 2 (nI (numK T tn (nxK T tn (nxK T tn (nxK T tn tk))))) → (isW T tn (nxK T tn (nxK T tn (nxK T tn (nxK T tn tk)))) (am_SL 7)) → ∀ s16 : Mg, (CT T tn (nxK T tn (nxK T tn (nxK T tn (nxK T tn (nxK T tn tk))))) s16 ∧ CN s14 s16) → (¬ tkP T tn (nxK T tn (nxK T tn (nxK T tn (nxK T tn (nxK T tn tk))))) 4 0 (sn S 0)) → ∀ s39 : Mg, (CF (spK T tn (nxK T tn (nxK T tn (nxK T tn (nxK T tn (nxK T tn tk)))))) s16 s39) → CT T tn (nxK T tn (nxK T tn (nxK T tn (nxK T tn (nxK T tn tk))))) s16 → FRc sg0 s16 → cwL 350 s16 (upd (upd (upd S (213 + 7 * (sn S 4)) (nI (numK T tn (nxK T tn tk)))) (213 + 7 * (sn S 4) + 1) (nI (numK T tn (nxK T tn (nxK T tn tk))))) (213 + 7 * (sn S 4) + 2) (nI (numK T tn (nxK T tn (nxK T tn (nxK T tn tk)))))) → cwD 300 s16 (upd (upd (upd S (213 + 7 * (sn S 4)) (nI (numK T tn (nxK T tn tk)))) (213 + 7 * (sn S 4) + 1) (nI (numK T tn (nxK T tn (nxK T tn tk))))) (213 + 7 * (sn S 4) + 2) (nI (numK T tn (nxK T tn (nxK T tn (nxK T tn tk)))))) → Q (gRx p s39 0))
    (o7 : (sn S 4 < 8) → ∀ s2 : Mg, (CT T tn (nxK T tn tk) s2 ∧ CN sg s2) → (tkP T tn (nxK T tn tk) 4 0 (sn S 1)) → ∀ s4 : Mg, (CT T tn (nxK T tn (nxK T tn tk)) s4 ∧ CN s2 s4) → ∀ s6 : Mg, s6 = mu s4 (334 + sn S 4) 0 (nI (numK T tn (nxK T tn tk))) → (tkN T tn (nxK T tn (nxK T tn tk)) (sn S 1) (numK T tn (nxK T tn tk))) → ∀ s8 : Mg, (CT T tn (nxK T tn (nxK T tn (nxK T tn tk))) s8 ∧ CN s6 s8) → ∀ s10 : Mg, s10 = mu s8 (334 + sn S 4) 1 (nI (numK T tn (nxK T tn (nxK T tn tk)))) → (tkP T tn (nxK T tn (nxK T tn (nxK T tn tk))) 4 1 1000) → ∀ s12 : Mg, (CT T tn (nxK T tn (nxK T tn (nxK T tn (nxK T tn tk)))) s12 ∧ CN s10 s12) → ∀ s14 : Mg, s14 = mu s12 (334 + sn S 4) 2 (nI (numK T tn (nxK T tn (nxK T tn (nxK T tn tk))))) → (¬ isW T tn (nxK T tn (nxK T tn (nxK T tn (nxK T tn tk)))) (am_SL 7)) → ∀ s40 : Mg, (CF (spK T tn (nxK T tn (nxK T tn (nxK T tn (nxK T tn tk))))) s14 s40) → CT T tn (nxK T tn (nxK T tn (nxK T tn (nxK T tn tk)))) s14 → FRc sg0 s14 → cwL 350 s14 (upd (upd (upd S (213 + 7 * (sn S 4)) (nI (numK T tn (nxK T tn tk)))) (213 + 7 * (sn S 4) + 1) (nI (numK T tn (nxK T tn (nxK T tn tk))))) (213 + 7 * (sn S 4) + 2) (nI (numK T tn (nxK T tn (nxK T tn (nxK T tn tk)))))) → cwD 300 s14 (upd (upd (upd S (213 + 7 * (sn S 4)) (nI (numK T tn (nxK T tn tk)))) (213 + 7 * (sn S 4) + 1) (nI (numK T tn (nxK T tn (nxK T tn tk))))) (213 + 7 * (sn S 4) + 2) (nI (numK T tn (nxK T tn (nxK T tn (nxK T tn tk)))))) → Q (gRx p s40 0))
    (o8 : (sn S 4 < 8) → ∀ s2 : Mg, (CT T tn (nxK T tn tk) s2 ∧ CN sg s2) → (tkP T tn (nxK T tn tk) 4 0 (sn S 1)) → ∀ s4 : Mg, (CT T tn (nxK T tn (nxK T tn tk)) s4 ∧ CN s2 s4) → ∀ s6 : Mg, s6 = mu s4 (334 + sn S 4) 0 (nI (numK T tn (nxK T tn tk))) → (tkN T tn (nxK T tn (nxK T tn tk)) (sn S 1) (numK T tn (nxK T tn tk))) → ∀ s8 : Mg, (CT T tn (nxK T tn (nxK T tn (nxK T tn tk))) s8 ∧ CN s6 s8) → ∀ s10 : Mg, s10 = mu s8 (334 + sn S 4) 1 (nI (numK T tn (nxK T tn (nxK T tn tk)))) → (¬ tkP T tn (nxK T tn (nxK T tn (nxK T tn tk))) 4 1 1000) → ∀ s41 : Mg, (CF (spK T tn (nxK T tn (nxK T tn (nxK T tn tk)))) s10 s41) → CT T tn (nxK T tn (nxK T tn (nxK T tn tk))) s10 → FRc sg0 s10 → cwL 350 s10 (upd (upd S (213 + 7 * (sn S 4)) (nI (numK T tn (nxK T tn tk)))) (213 + 7 * (sn S 4) + 1) (nI (numK T tn (nxK T tn (nxK T tn tk))))) → cwD 300 s10 (upd (upd S (213 + 7 * (sn S 4)) (nI (numK T tn (nxK T tn tk)))) (213 + 7 * (sn S 4) + 1) (nI (numK T tn (nxK T tn (nxK T tn tk))))) → Q (gRx p s41 0))
    (o9 : (sn S 4 < 8) → ∀ s2 : Mg, (CT T tn (nxK T tn tk) s2 ∧ CN sg s2) → (tkP T tn (nxK T tn tk) 4 0 (sn S 1)) → ∀ s4 : Mg, (CT T tn (nxK T tn (nxK T tn tk)) s4 ∧ CN s2 s4) → ∀ s6 : Mg, s6 = mu s4 (334 + sn S 4) 0 (nI (numK T tn (nxK T tn tk))) → (¬ tkN T tn (nxK T tn (nxK T tn tk)) (sn S 1) (numK T tn (nxK T tn tk))) → ∀ s42 : Mg, (CF (spK T tn (nxK T tn (nxK T tn tk))) s6 s42) → CT T tn (nxK T tn (nxK T tn tk)) s6 → FRc sg0 s6 → cwL 350 s6 (upd S (213 + 7 * (sn S 4)) (nI (numK T tn (nxK T tn tk)))) → cwD 300 s6 (upd S (213 + 7 * (sn S 4)) (nI (numK T tn (nxK T tn tk)))) → Q (gRx p s42 0))
    (o10 : (sn S 4 < 8) → ∀ s2 : Mg, (CT T tn (nxK T tn tk) s2 ∧ CN sg s2) → (¬ tkP T tn (nxK T tn tk) 4 0 (sn S 1)) → ∀ s43 : Mg, (CF (spK T tn (nxK T tn tk)) s2 s43) → CT T tn (nxK T tn tk) s2 → FRc sg0 s2 → cwL 350 s2 S → cwD 300 s2 S → Q (gRx p s43 0))
    (o11 : (¬ (sn S 4 < 8)) → ∀ s44 : Mg, (CF (spK T tn tk) sg s44) → CT T tn tk sg → FRc sg0 sg → cwL 350 sg S → cwD 300 sg S → Q (gRx p s44 0)) :
    gW X (d + 4) k_19 0 [some (vR 4), none, none] [] p sg Q := by
  have b0 := hI.b0; have b1 := hI.b1; have b2 := hI.b2; have b3 := hI.b3; have b4 := hI.b4; have b5 := hI.b5; have b6 := hI.b6; have b7 := hI.b7; have b8 := hI.b8; have b9 := hI.b9; have b14 := hI.b14
  refine g_pure 3 (i' := 3) (lv' := [some (vR 4), none, none]) (st' := [vI 8, vI 4, vR 4]) rfl ?_
  by_cases h1 : sn S 4 < 8
  · refine gW_eq (st' := [vI (nI 8), vI (nI 4), vR 4]) rfl (by rw [(show (4 : Int32) = nI 4 from rfl), (show (8 : Int32) = nI 8 from rfl)]) rfl ?_
    refine g_cV1E rfl (args := [vR 4, vI (nI 4), vI (nI 8)]) (rest := []) rfl rfl rfl (s_11a (d := d + 2) hT (((hD.cnt (by decide))).trans (hI.c4)) (by omega) (by omega) (by omega) (by assumption)) (fun s2 es2 => ?_)
    have hTs2 := es2.1
    have hFs2 := hF.cn es2.2
    have hLs2 : cwL 350 s2 S := hL.eqc (fun c c1 c2 => es2.2.1 c (by omega))
    have hDs2 : cwD 300 s2 S := hD.eqc (fun c c1 => es2.2.1 c (by omega))
    refine g_pure 5 (i' := 9) (lv' := [some (vR 4), some (vI (nI (sn S 4))), none]) (st' := [vI (nI (sn S 4)), vR 306]) rfl ?_
    refine g_aald rfl (Or.inl rfl) (g_A (a := 306) (kd := 5) (n := 8) rfl (by decide)) (by decide) (show nI (sn S 4) = nI (sn S 4) from (rfl : nI (sn S 4) = nI (sn S 4))) (by omega) (gR_306 (by omega)) ?_
    refine g_pure 5 (i' := 15) (lv' := [some (vR 4), some (vI (nI (sn S 4))), some (vR (334 + sn S 4))]) (st' := [vI 1, vR 4, vI 0, vR (334 + sn S 4)]) rfl ?_
    by_cases h3 : tkP T tn (nxK T tn tk) 4 0 (sn S 1)
    · refine gW_eq (st' := [vI (nI 1), vR 4, vI 0, vR (334 + sn S 4)]) rfl (by rw [(show (1 : Int32) = nI 1 from rfl)]) rfl ?_
      refine g_cV1E rfl (args := [vR 4, vI (nI 1)]) (rest := [vI 0, vR (334 + sn S 4)]) rfl rfl rfl (s_15a (d := d + 1) hTs2 (((hDs2.cnt (by decide))).trans (hI.c1)) (by omega) (by omega) (by assumption)) (fun s4 es4 => ?_)
      have hTs4 := es4.1
      have hFs4 := hFs2.cn es4.2
      have hLs4 : cwL 350 s4 S := hLs2.eqc (fun c c1 c2 => es4.2.1 c (by omega))
      have hDs4 : cwD 300 s4 S := hDs2.eqc (fun c c1 => es4.2.1 c (by omega))
      have t5 := (show tkP T tn (nxK T tn tk) 4 0 (sn S 1) by assumption).2.2.2
      refine g_ast rfl (gA_306 (by omega)) (by decide) (show 0 = nI 0 from (show (0 : Int32) = nI 0 from rfl)) (by decide) ?_
      refine g_setv (fun s6 es6 => ?_)
      have hTs6 : CT T tn (nxK T tn (nxK T tn tk)) s6 := hTs4.eq (by rw [es6, mu_ne (by omega)]) (by rw [es6, mu_ne (by omega)])
      have hFs6 : FRc sg0 s6 := by rw [es6]; exact hFs4.mu (by omega)
      have hLs6 : cwL 350 s6 (upd S (213 + 7 * (sn S 4)) (nI (numK T tn (nxK T tn tk)))) := by rw [es6]; exact hLs4.land (by omega) (by unfold noLand; omega)
      have hDs6 : cwD 300 s6 (upd S (213 + 7 * (sn S 4)) (nI (numK T tn (nxK T tn tk)))) := by rw [es6]; exact hDs4.wdeb (by omega) (by omega)
      refine g_pure 6 (i' := 23) (lv' := [some (vR 4), some (vI (nI (sn S 4))), some (vR (334 + sn S 4))]) (st' := [vI 0, vR (334 + sn S 4), vI 1, vR 4, vI 1, vR (334 + sn S 4)]) rfl ?_
      refine g_ald rfl (gA_306 (by omega)) (by decide) (show 0 = nI 0 from (show (0 : Int32) = nI 0 from rfl)) (by decide) (show _ = nI (numK T tn (nxK T tn tk)) from ((hDs6.deb 0 (by omega) (by decide))).trans upd_self) ?_
      by_cases h7 : tkN T tn (nxK T tn (nxK T tn tk)) (sn S 1) (numK T tn (nxK T tn tk))
      · refine gW_eq (st' := [vI (nI (numK T tn (nxK T tn tk))), vI (nI 1), vR 4, vI 1, vR (334 + sn S 4)]) rfl (by rw [(show (1 : Int32) = nI 1 from rfl)]) rfl ?_
        refine g_cV1E rfl (args := [vR 4, vI (nI 1), vI (nI (numK T tn (nxK T tn tk)))]) (rest := [vI 1, vR (334 + sn S 4)]) rfl rfl rfl (s_18a (d := d) hTs6 ((((hDs6.cnt (by decide))).trans (upd_ne (by omega))).trans (hI.c1)) (by omega) (by omega) (by omega) (by assumption)) (fun s8 es8 => ?_)
        have hTs8 := es8.1
        have hFs8 := hFs6.cn es8.2
        have hLs8 : cwL 350 s8 (upd S (213 + 7 * (sn S 4)) (nI (numK T tn (nxK T tn tk)))) := hLs6.eqc (fun c c1 c2 => es8.2.1 c (by omega))
        have hDs8 : cwD 300 s8 (upd S (213 + 7 * (sn S 4)) (nI (numK T tn (nxK T tn tk)))) := hDs6.eqc (fun c c1 => es8.2.1 c (by omega))
        have t9 := (show tkN T tn (nxK T tn (nxK T tn tk)) (sn S 1) (numK T tn (nxK T tn tk)) by assumption).1.2.2.2
        refine g_ast rfl (gA_306 (by omega)) (by decide) (show 1 = nI 1 from (show (1 : Int32) = nI 1 from rfl)) (by decide) ?_
        refine g_setv (fun s10 es10 => ?_)
        have hTs10 : CT T tn (nxK T tn (nxK T tn (nxK T tn tk))) s10 := hTs8.eq (by rw [es10, mu_ne (by omega)]) (by rw [es10, mu_ne (by omega)])
        have hFs10 : FRc sg0 s10 := by rw [es10]; exact hFs8.mu (by omega)
        have hLs10 : cwL 350 s10 (upd (upd S (213 + 7 * (sn S 4)) (nI (numK T tn (nxK T tn tk)))) (213 + 7 * (sn S 4) + 1) (nI (numK T tn (nxK T tn (nxK T tn tk))))) := by rw [es10]; exact hLs8.land (by omega) (by unfold noLand; omega)
        have hDs10 : cwD 300 s10 (upd (upd S (213 + 7 * (sn S 4)) (nI (numK T tn (nxK T tn tk)))) (213 + 7 * (sn S 4) + 1) (nI (numK T tn (nxK T tn (nxK T tn tk))))) := by rw [es10]; exact hDs8.wdeb (by omega) (by omega)
        refine g_pure 7 (i' := 33) (lv' := [some (vR 4), some (vI (nI (sn S 4))), some (vR (334 + sn S 4))]) (st' := [vI 999, vI 1, vI 4, vR 1, vI 2, vR (334 + sn S 4)]) rfl ?_
        by_cases h11 : tkP T tn (nxK T tn (nxK T tn (nxK T tn tk))) 4 1 1000
        · refine gW_eq (st' := [vI 999, vI (nI 1), vI (nI 4), vR 1, vI 2, vR (334 + sn S 4)]) rfl (by rw [(show (4 : Int32) = nI 4 from rfl), (show (1 : Int32) = nI 1 from rfl)]) rfl ?_
          refine g_cV1E rfl (args := [vR 1, vI (nI 4), vI (nI 1), vI 999]) (rest := [vI 2, vR (334 + sn S 4)]) rfl rfl rfl (s_77a (m := 1000) (d := d + 2) hTs10 (by omega) (by omega) (by omega) (show (999 : Int32) = nI 1000 - 1 from by decide) (by assumption)) (fun s12 es12 => ?_)
          have hTs12 := es12.1
          have hFs12 := hFs10.cn es12.2
          have hLs12 : cwL 350 s12 (upd (upd S (213 + 7 * (sn S 4)) (nI (numK T tn (nxK T tn tk)))) (213 + 7 * (sn S 4) + 1) (nI (numK T tn (nxK T tn (nxK T tn tk))))) := hLs10.eqc (fun c c1 c2 => es12.2.1 c (by omega))
          have hDs12 : cwD 300 s12 (upd (upd S (213 + 7 * (sn S 4)) (nI (numK T tn (nxK T tn tk)))) (213 + 7 * (sn S 4) + 1) (nI (numK T tn (nxK T tn (nxK T tn tk))))) := hDs10.eqc (fun c c1 => es12.2.1 c (by omega))
          have t13 := (show tkP T tn (nxK T tn (nxK T tn (nxK T tn tk))) 4 1 1000 by assumption).2.2
          refine g_ast rfl (gA_306 (by omega)) (by decide) (show 2 = nI 2 from (show (2 : Int32) = nI 2 from rfl)) (by decide) ?_
          refine g_setv (fun s14 es14 => ?_)
          have hTs14 : CT T tn (nxK T tn (nxK T tn (nxK T tn (nxK T tn tk)))) s14 := hTs12.eq (by rw [es14, mu_ne (by omega)]) (by rw [es14, mu_ne (by omega)])
          have hFs14 : FRc sg0 s14 := by rw [es14]; exact hFs12.mu (by omega)
          have hLs14 : cwL 350 s14 (upd (upd (upd S (213 + 7 * (sn S 4)) (nI (numK T tn (nxK T tn tk)))) (213 + 7 * (sn S 4) + 1) (nI (numK T tn (nxK T tn (nxK T tn tk))))) (213 + 7 * (sn S 4) + 2) (nI (numK T tn (nxK T tn (nxK T tn (nxK T tn tk)))))) := by rw [es14]; exact hLs12.land (by omega) (by unfold noLand; omega)
          have hDs14 : cwD 300 s14 (upd (upd (upd S (213 + 7 * (sn S 4)) (nI (numK T tn (nxK T tn tk)))) (213 + 7 * (sn S 4) + 1) (nI (numK T tn (nxK T tn (nxK T tn tk))))) (213 + 7 * (sn S 4) + 2) (nI (numK T tn (nxK T tn (nxK T tn (nxK T tn tk)))))) := by rw [es14]; exact hDs12.wdeb (by omega) (by omega)
          refine g_pure 3 (i' := 38) (lv' := [some (vR 4), some (vI (nI (sn S 4))), some (vR (334 + sn S 4))]) (st' := [vS 7, vR 1]) rfl ?_
          by_cases h15 : isW T tn (nxK T tn (nxK T tn (nxK T tn (nxK T tn tk)))) (am_SL 7)
          · refine g_cV0E rfl (args := [vR 1, vS 7]) (rest := []) rfl rfl rfl (s_73a (d := d + 2) (by decide) hTs14 (by assumption)) (fun s16 es16 => ?_)
            have hTs16 := es16.1
            have hFs16 := hFs14.cn es16.2
            have hLs16 : cwL 350 s16 (upd (upd (upd S (213 + 7 * (sn S 4)) (nI (numK T tn (nxK T tn tk)))) (213 + 7 * (sn S 4) + 1) (nI (numK T tn (nxK T tn (nxK T tn tk))))) (213 + 7 * (sn S 4) + 2) (nI (numK T tn (nxK T tn (nxK T tn (nxK T tn tk)))))) := hLs14.eqc (fun c c1 c2 => es16.2.1 c (by omega))
            have hDs16 : cwD 300 s16 (upd (upd (upd S (213 + 7 * (sn S 4)) (nI (numK T tn (nxK T tn tk)))) (213 + 7 * (sn S 4) + 1) (nI (numK T tn (nxK T tn (nxK T tn tk))))) (213 + 7 * (sn S 4) + 2) (nI (numK T tn (nxK T tn (nxK T tn (nxK T tn tk)))))) := hDs14.eqc (fun c c1 => es16.2.1 c (by omega))
            refine g_pure 4 (i' := 43) (lv' := [some (vR 4), some (vI (nI (sn S 4))), some (vR (334 + sn S 4))]) (st' := [vI 0, vR 4, vI 3, vR (334 + sn S 4)]) rfl ?_
            by_cases h17 : tkP T tn (nxK T tn (nxK T tn (nxK T tn (nxK T tn (nxK T tn tk))))) 4 0 (sn S 0)
            · refine gW_eq (st' := [vI (nI 0), vR 4, vI 3, vR (334 + sn S 4)]) rfl (by rw [(show (0 : Int32) = nI 0 from rfl)]) rfl ?_
              refine g_cV1E rfl (args := [vR 4, vI (nI 0)]) (rest := [vI 3, vR (334 + sn S 4)]) rfl rfl rfl (s_15a (d := d + 1) hTs16 ((((((hDs16.cnt (by decide))).trans (upd_ne (by omega))).trans (upd_ne (by omega))).trans (upd_ne (by omega))).trans (hI.c0)) (by omega) (by omega) (by assumption)) (fun s18 es18 => ?_)
              have hTs18 := es18.1
              have hFs18 := hFs16.cn es18.2
              have hLs18 : cwL 350 s18 (upd (upd (upd S (213 + 7 * (sn S 4)) (nI (numK T tn (nxK T tn tk)))) (213 + 7 * (sn S 4) + 1) (nI (numK T tn (nxK T tn (nxK T tn tk))))) (213 + 7 * (sn S 4) + 2) (nI (numK T tn (nxK T tn (nxK T tn (nxK T tn tk)))))) := hLs16.eqc (fun c c1 c2 => es18.2.1 c (by omega))
              have hDs18 : cwD 300 s18 (upd (upd (upd S (213 + 7 * (sn S 4)) (nI (numK T tn (nxK T tn tk)))) (213 + 7 * (sn S 4) + 1) (nI (numK T tn (nxK T tn (nxK T tn tk))))) (213 + 7 * (sn S 4) + 2) (nI (numK T tn (nxK T tn (nxK T tn (nxK T tn tk)))))) := hDs16.eqc (fun c c1 => es18.2.1 c (by omega))
              have t19 := (show tkP T tn (nxK T tn (nxK T tn (nxK T tn (nxK T tn (nxK T tn tk))))) 4 0 (sn S 0) by assumption).2.2.2
              refine g_ast rfl (gA_306 (by omega)) (by decide) (show 3 = nI 3 from (show (3 : Int32) = nI 3 from rfl)) (by decide) ?_
              refine g_setv (fun s20 es20 => ?_)
              have hTs20 : CT T tn (nxK T tn (nxK T tn (nxK T tn (nxK T tn (nxK T tn (nxK T tn tk)))))) s20 := hTs18.eq (by rw [es20, mu_ne (by omega)]) (by rw [es20, mu_ne (by omega)])
              have hFs20 : FRc sg0 s20 := by rw [es20]; exact hFs18.mu (by omega)
              have hLs20 : cwL 350 s20 (upd (upd (upd (upd S (213 + 7 * (sn S 4)) (nI (numK T tn (nxK T tn tk)))) (213 + 7 * (sn S 4) + 1) (nI (numK T tn (nxK T tn (nxK T tn tk))))) (213 + 7 * (sn S 4) + 2) (nI (numK T tn (nxK T tn (nxK T tn (nxK T tn tk)))))) (213 + 7 * (sn S 4) + 3) (nI (numK T tn (nxK T tn (nxK T tn (nxK T tn (nxK T tn (nxK T tn tk)))))))) := by rw [es20]; exact hLs18.land (by omega) (by unfold noLand; omega)
              have hDs20 : cwD 300 s20 (upd (upd (upd (upd S (213 + 7 * (sn S 4)) (nI (numK T tn (nxK T tn tk)))) (213 + 7 * (sn S 4) + 1) (nI (numK T tn (nxK T tn (nxK T tn tk))))) (213 + 7 * (sn S 4) + 2) (nI (numK T tn (nxK T tn (nxK T tn (nxK T tn tk)))))) (213 + 7 * (sn S 4) + 3) (nI (numK T tn (nxK T tn (nxK T tn (nxK T tn (nxK T tn (nxK T tn tk)))))))) := by rw [es20]; exact hDs18.wdeb (by omega) (by omega)
              refine g_pure 3 (i' := 48) (lv' := [some (vR 4), some (vI (nI (sn S 4))), some (vR (334 + sn S 4))]) (st' := [vS 8, vR 1]) rfl ?_
              by_cases h21 : isW T tn (nxK T tn (nxK T tn (nxK T tn (nxK T tn (nxK T tn (nxK T tn tk)))))) (am_SL 8)
              · refine g_cV0E rfl (args := [vR 1, vS 8]) (rest := []) rfl rfl rfl (s_73a (d := d + 2) (by decide) hTs20 (by assumption)) (fun s22 es22 => ?_)
                have hTs22 := es22.1
                have hFs22 := hFs20.cn es22.2
                have hLs22 : cwL 350 s22 (upd (upd (upd (upd S (213 + 7 * (sn S 4)) (nI (numK T tn (nxK T tn tk)))) (213 + 7 * (sn S 4) + 1) (nI (numK T tn (nxK T tn (nxK T tn tk))))) (213 + 7 * (sn S 4) + 2) (nI (numK T tn (nxK T tn (nxK T tn (nxK T tn tk)))))) (213 + 7 * (sn S 4) + 3) (nI (numK T tn (nxK T tn (nxK T tn (nxK T tn (nxK T tn (nxK T tn tk)))))))) := hLs20.eqc (fun c c1 c2 => es22.2.1 c (by omega))
                have hDs22 : cwD 300 s22 (upd (upd (upd (upd S (213 + 7 * (sn S 4)) (nI (numK T tn (nxK T tn tk)))) (213 + 7 * (sn S 4) + 1) (nI (numK T tn (nxK T tn (nxK T tn tk))))) (213 + 7 * (sn S 4) + 2) (nI (numK T tn (nxK T tn (nxK T tn (nxK T tn tk)))))) (213 + 7 * (sn S 4) + 3) (nI (numK T tn (nxK T tn (nxK T tn (nxK T tn (nxK T tn (nxK T tn tk)))))))) := hDs20.eqc (fun c c1 => es22.2.1 c (by omega))
                refine g_pure 3 (i' := 52) (lv' := [some (vR 4), some (vI (nI (sn S 4))), some (vR (334 + sn S 4))]) (st' := [vR 4, vI 4, vR (334 + sn S 4)]) rfl ?_
                by_cases h23 : tkP T tn (nxK T tn (nxK T tn (nxK T tn (nxK T tn (nxK T tn (nxK T tn (nxK T tn tk))))))) 4 0 (sn S 9)
                · refine g_cV1E rfl (args := [vR 4]) (rest := [vI 4, vR (334 + sn S 4)]) rfl rfl rfl (s_13a (d := d + 1) hTs22 ((((((hDs22.f5).trans (upd_ne (by omega))).trans (upd_ne (by omega))).trans (upd_ne (by omega))).trans (upd_ne (by omega))).trans (hI.c9)) (by omega) (by assumption)) (fun s24 es24 => ?_)
                  have hTs24 := es24.1
                  have hFs24 := hFs22.cn es24.2
                  have hLs24 : cwL 350 s24 (upd (upd (upd (upd S (213 + 7 * (sn S 4)) (nI (numK T tn (nxK T tn tk)))) (213 + 7 * (sn S 4) + 1) (nI (numK T tn (nxK T tn (nxK T tn tk))))) (213 + 7 * (sn S 4) + 2) (nI (numK T tn (nxK T tn (nxK T tn (nxK T tn tk)))))) (213 + 7 * (sn S 4) + 3) (nI (numK T tn (nxK T tn (nxK T tn (nxK T tn (nxK T tn (nxK T tn tk)))))))) := hLs22.eqc (fun c c1 c2 => es24.2.1 c (by omega))
                  have hDs24 : cwD 300 s24 (upd (upd (upd (upd S (213 + 7 * (sn S 4)) (nI (numK T tn (nxK T tn tk)))) (213 + 7 * (sn S 4) + 1) (nI (numK T tn (nxK T tn (nxK T tn tk))))) (213 + 7 * (sn S 4) + 2) (nI (numK T tn (nxK T tn (nxK T tn (nxK T tn tk)))))) (213 + 7 * (sn S 4) + 3) (nI (numK T tn (nxK T tn (nxK T tn (nxK T tn (nxK T tn (nxK T tn tk)))))))) := hDs22.eqc (fun c c1 => es24.2.1 c (by omega))
                  have t25 := (show tkP T tn (nxK T tn (nxK T tn (nxK T tn (nxK T tn (nxK T tn (nxK T tn (nxK T tn tk))))))) 4 0 (sn S 9) by assumption).2.2.2
                  refine g_ast rfl (gA_306 (by omega)) (by decide) (show 4 = nI 4 from (show (4 : Int32) = nI 4 from rfl)) (by decide) ?_
                  refine g_setv (fun s26 es26 => ?_)
                  have hTs26 : CT T tn (nxK T tn (nxK T tn (nxK T tn (nxK T tn (nxK T tn (nxK T tn (nxK T tn (nxK T tn tk)))))))) s26 := hTs24.eq (by rw [es26, mu_ne (by omega)]) (by rw [es26, mu_ne (by omega)])
                  have hFs26 : FRc sg0 s26 := by rw [es26]; exact hFs24.mu (by omega)
                  have hLs26 : cwL 350 s26 (upd (upd (upd (upd (upd S (213 + 7 * (sn S 4)) (nI (numK T tn (nxK T tn tk)))) (213 + 7 * (sn S 4) + 1) (nI (numK T tn (nxK T tn (nxK T tn tk))))) (213 + 7 * (sn S 4) + 2) (nI (numK T tn (nxK T tn (nxK T tn (nxK T tn tk)))))) (213 + 7 * (sn S 4) + 3) (nI (numK T tn (nxK T tn (nxK T tn (nxK T tn (nxK T tn (nxK T tn tk)))))))) (213 + 7 * (sn S 4) + 4) (nI (numK T tn (nxK T tn (nxK T tn (nxK T tn (nxK T tn (nxK T tn (nxK T tn (nxK T tn tk)))))))))) := by rw [es26]; exact hLs24.land (by omega) (by unfold noLand; omega)
                  have hDs26 : cwD 300 s26 (upd (upd (upd (upd (upd S (213 + 7 * (sn S 4)) (nI (numK T tn (nxK T tn tk)))) (213 + 7 * (sn S 4) + 1) (nI (numK T tn (nxK T tn (nxK T tn tk))))) (213 + 7 * (sn S 4) + 2) (nI (numK T tn (nxK T tn (nxK T tn (nxK T tn tk)))))) (213 + 7 * (sn S 4) + 3) (nI (numK T tn (nxK T tn (nxK T tn (nxK T tn (nxK T tn (nxK T tn tk)))))))) (213 + 7 * (sn S 4) + 4) (nI (numK T tn (nxK T tn (nxK T tn (nxK T tn (nxK T tn (nxK T tn (nxK T tn (nxK T tn tk)))))))))) := by rw [es26]; exact hDs24.wdeb (by omega) (by omega)
                  refine g_pure 3 (i' := 57) (lv' := [some (vR 4), some (vI (nI (sn S 4))), some (vR (334 + sn S 4))]) (st' := [vS 9, vR 1]) rfl ?_
                  by_cases h27 : isW T tn (nxK T tn (nxK T tn (nxK T tn (nxK T tn (nxK T tn (nxK T tn (nxK T tn (nxK T tn tk)))))))) (am_SL 9)
                  · refine g_cV0E rfl (args := [vR 1, vS 9]) (rest := []) rfl rfl rfl (s_73a (d := d + 2) (by decide) hTs26 (by assumption)) (fun s28 es28 => ?_)
                    have hTs28 := es28.1
                    have hFs28 := hFs26.cn es28.2
                    have hLs28 : cwL 350 s28 (upd (upd (upd (upd (upd S (213 + 7 * (sn S 4)) (nI (numK T tn (nxK T tn tk)))) (213 + 7 * (sn S 4) + 1) (nI (numK T tn (nxK T tn (nxK T tn tk))))) (213 + 7 * (sn S 4) + 2) (nI (numK T tn (nxK T tn (nxK T tn (nxK T tn tk)))))) (213 + 7 * (sn S 4) + 3) (nI (numK T tn (nxK T tn (nxK T tn (nxK T tn (nxK T tn (nxK T tn tk)))))))) (213 + 7 * (sn S 4) + 4) (nI (numK T tn (nxK T tn (nxK T tn (nxK T tn (nxK T tn (nxK T tn (nxK T tn (nxK T tn tk)))))))))) := hLs26.eqc (fun c c1 c2 => es28.2.1 c (by omega))
                    have hDs28 : cwD 300 s28 (upd (upd (upd (upd (upd S (213 + 7 * (sn S 4)) (nI (numK T tn (nxK T tn tk)))) (213 + 7 * (sn S 4) + 1) (nI (numK T tn (nxK T tn (nxK T tn tk))))) (213 + 7 * (sn S 4) + 2) (nI (numK T tn (nxK T tn (nxK T tn (nxK T tn tk)))))) (213 + 7 * (sn S 4) + 3) (nI (numK T tn (nxK T tn (nxK T tn (nxK T tn (nxK T tn (nxK T tn tk)))))))) (213 + 7 * (sn S 4) + 4) (nI (numK T tn (nxK T tn (nxK T tn (nxK T tn (nxK T tn (nxK T tn (nxK T tn (nxK T tn tk)))))))))) := hDs26.eqc (fun c c1 => es28.2.1 c (by omega))
                    refine g_pure 6 (i' := 64) (lv' := [some (vR 4), some (vI (nI (sn S 4))), some (vR (334 + sn S 4))]) (st' := [vI 4, vR (334 + sn S 4), vI 1, vR 4, vI 5, vR (334 + sn S 4)]) rfl ?_
                    refine g_ald rfl (gA_306 (by omega)) (by decide) (show 4 = nI 4 from (show (4 : Int32) = nI 4 from rfl)) (by decide) (show _ = nI (numK T tn (nxK T tn (nxK T tn (nxK T tn (nxK T tn (nxK T tn (nxK T tn (nxK T tn tk)))))))) from ((hDs28.deb 4 (by omega) (by decide))).trans upd_self) ?_
                    refine g_pure 1 (i' := 66) (lv' := [some (vR 4), some (vI (nI (sn S 4))), some (vR (334 + sn S 4))]) (st' := [vI (1 <<< (nI (numK T tn (nxK T tn (nxK T tn (nxK T tn (nxK T tn (nxK T tn (nxK T tn (nxK T tn tk)))))))) &&& 31)), vR 4, vI 5, vR (334 + sn S 4)]) rfl ?_
                    by_cases h29 : tkN T tn (nxK T tn (nxK T tn (nxK T tn (nxK T tn (nxK T tn (nxK T tn (nxK T tn (nxK T tn (nxK T tn tk))))))))) (sn S 9) (numK T tn (nxK T tn (nxK T tn (nxK T tn (nxK T tn (nxK T tn (nxK T tn (nxK T tn tk))))))))
                    · refine g_cV1E rfl (args := [vR 4, vI (1 <<< (nI (numK T tn (nxK T tn (nxK T tn (nxK T tn (nxK T tn (nxK T tn (nxK T tn (nxK T tn tk)))))))) &&& 31))]) (rest := [vI 5, vR (334 + sn S 4)]) rfl rfl rfl (s_12pa (x := numK T tn (nxK T tn (nxK T tn (nxK T tn (nxK T tn (nxK T tn (nxK T tn (nxK T tn tk)))))))) (d := d) hTs28 (((((((hDs28.f5).trans (upd_ne (by omega))).trans (upd_ne (by omega))).trans (upd_ne (by omega))).trans (upd_ne (by omega))).trans (upd_ne (by omega))).trans (hI.c9)) (by omega) (by omega) (by assumption)) (fun s30 es30 => ?_)
                      have hTs30 := es30.1
                      have hFs30 := hFs28.cn es30.2
                      have hLs30 : cwL 350 s30 (upd (upd (upd (upd (upd S (213 + 7 * (sn S 4)) (nI (numK T tn (nxK T tn tk)))) (213 + 7 * (sn S 4) + 1) (nI (numK T tn (nxK T tn (nxK T tn tk))))) (213 + 7 * (sn S 4) + 2) (nI (numK T tn (nxK T tn (nxK T tn (nxK T tn tk)))))) (213 + 7 * (sn S 4) + 3) (nI (numK T tn (nxK T tn (nxK T tn (nxK T tn (nxK T tn (nxK T tn tk)))))))) (213 + 7 * (sn S 4) + 4) (nI (numK T tn (nxK T tn (nxK T tn (nxK T tn (nxK T tn (nxK T tn (nxK T tn (nxK T tn tk)))))))))) := hLs28.eqc (fun c c1 c2 => es30.2.1 c (by omega))
                      have hDs30 : cwD 300 s30 (upd (upd (upd (upd (upd S (213 + 7 * (sn S 4)) (nI (numK T tn (nxK T tn tk)))) (213 + 7 * (sn S 4) + 1) (nI (numK T tn (nxK T tn (nxK T tn tk))))) (213 + 7 * (sn S 4) + 2) (nI (numK T tn (nxK T tn (nxK T tn (nxK T tn tk)))))) (213 + 7 * (sn S 4) + 3) (nI (numK T tn (nxK T tn (nxK T tn (nxK T tn (nxK T tn (nxK T tn tk)))))))) (213 + 7 * (sn S 4) + 4) (nI (numK T tn (nxK T tn (nxK T tn (nxK T tn (nxK T tn (nxK T tn (nxK T tn (nxK T tn tk)))))))))) := hDs28.eqc (fun c c1 => es30.2.1 c (by omega))
                      have t31 := (show tkN T tn (nxK T tn (nxK T tn (nxK T tn (nxK T tn (nxK T tn (nxK T tn (nxK T tn (nxK T tn (nxK T tn tk))))))))) (sn S 9) (numK T tn (nxK T tn (nxK T tn (nxK T tn (nxK T tn (nxK T tn (nxK T tn (nxK T tn tk)))))))) by assumption).1.2.2.2
                      refine g_ast rfl (gA_306 (by omega)) (by decide) (show 5 = nI 5 from (show (5 : Int32) = nI 5 from rfl)) (by decide) ?_
                      refine g_setv (fun s32 es32 => ?_)
                      have hTs32 : CT T tn (nxK T tn (nxK T tn (nxK T tn (nxK T tn (nxK T tn (nxK T tn (nxK T tn (nxK T tn (nxK T tn (nxK T tn tk)))))))))) s32 := hTs30.eq (by rw [es32, mu_ne (by omega)]) (by rw [es32, mu_ne (by omega)])
                      have hFs32 : FRc sg0 s32 := by rw [es32]; exact hFs30.mu (by omega)
                      have hLs32 : cwL 350 s32 (upd (upd (upd (upd (upd (upd S (213 + 7 * (sn S 4)) (nI (numK T tn (nxK T tn tk)))) (213 + 7 * (sn S 4) + 1) (nI (numK T tn (nxK T tn (nxK T tn tk))))) (213 + 7 * (sn S 4) + 2) (nI (numK T tn (nxK T tn (nxK T tn (nxK T tn tk)))))) (213 + 7 * (sn S 4) + 3) (nI (numK T tn (nxK T tn (nxK T tn (nxK T tn (nxK T tn (nxK T tn tk)))))))) (213 + 7 * (sn S 4) + 4) (nI (numK T tn (nxK T tn (nxK T tn (nxK T tn (nxK T tn (nxK T tn (nxK T tn (nxK T tn tk)))))))))) (213 + 7 * (sn S 4) + 5) (nI (numK T tn (nxK T tn (nxK T tn (nxK T tn (nxK T tn (nxK T tn (nxK T tn (nxK T tn (nxK T tn (nxK T tn tk)))))))))))) := by rw [es32]; exact hLs30.land (by omega) (by unfold noLand; omega)
                      have hDs32 : cwD 300 s32 (upd (upd (upd (upd (upd (upd S (213 + 7 * (sn S 4)) (nI (numK T tn (nxK T tn tk)))) (213 + 7 * (sn S 4) + 1) (nI (numK T tn (nxK T tn (nxK T tn tk))))) (213 + 7 * (sn S 4) + 2) (nI (numK T tn (nxK T tn (nxK T tn (nxK T tn tk)))))) (213 + 7 * (sn S 4) + 3) (nI (numK T tn (nxK T tn (nxK T tn (nxK T tn (nxK T tn (nxK T tn tk)))))))) (213 + 7 * (sn S 4) + 4) (nI (numK T tn (nxK T tn (nxK T tn (nxK T tn (nxK T tn (nxK T tn (nxK T tn (nxK T tn tk)))))))))) (213 + 7 * (sn S 4) + 5) (nI (numK T tn (nxK T tn (nxK T tn (nxK T tn (nxK T tn (nxK T tn (nxK T tn (nxK T tn (nxK T tn (nxK T tn tk)))))))))))) := by rw [es32]; exact hDs30.wdeb (by omega) (by omega)
                      refine g_pure 5 (i' := 73) (lv' := [some (vR 4), some (vI (nI (sn S 4))), some (vR (334 + sn S 4))]) (st' := [vI 0, vI (nI (sn S 4)), vR 358]) rfl ?_
                      refine g_ast rfl (g_A (a := 358) (kd := 1) (n := 8) rfl (by decide)) (by decide) (show nI (sn S 4) = nI (sn S 4) from (rfl : nI (sn S 4) = nI (sn S 4))) (by omega) ?_
                      refine g_setv (fun s33 es33 => ?_)
                      have hTs33 : CT T tn (nxK T tn (nxK T tn (nxK T tn (nxK T tn (nxK T tn (nxK T tn (nxK T tn (nxK T tn (nxK T tn (nxK T tn tk)))))))))) s33 := hTs32.eq (by rw [es33, mu_ne (by omega)]) (by rw [es33, mu_ne (by omega)])
                      have hFs33 : FRc sg0 s33 := by rw [es33]; exact hFs32.mu (by omega)
                      have hLs33 : cwL 350 s33 (upd (upd (upd (upd (upd (upd (upd S (213 + 7 * (sn S 4)) (nI (numK T tn (nxK T tn tk)))) (213 + 7 * (sn S 4) + 1) (nI (numK T tn (nxK T tn (nxK T tn tk))))) (213 + 7 * (sn S 4) + 2) (nI (numK T tn (nxK T tn (nxK T tn (nxK T tn tk)))))) (213 + 7 * (sn S 4) + 3) (nI (numK T tn (nxK T tn (nxK T tn (nxK T tn (nxK T tn (nxK T tn tk)))))))) (213 + 7 * (sn S 4) + 4) (nI (numK T tn (nxK T tn (nxK T tn (nxK T tn (nxK T tn (nxK T tn (nxK T tn (nxK T tn tk)))))))))) (213 + 7 * (sn S 4) + 5) (nI (numK T tn (nxK T tn (nxK T tn (nxK T tn (nxK T tn (nxK T tn (nxK T tn (nxK T tn (nxK T tn (nxK T tn tk)))))))))))) (213 + 7 * (sn S 4) + 6) 0) := by rw [es33]; exact hLs32.wmis (by omega)
                      have hDs33 : cwD 300 s33 (upd (upd (upd (upd (upd (upd (upd S (213 + 7 * (sn S 4)) (nI (numK T tn (nxK T tn tk)))) (213 + 7 * (sn S 4) + 1) (nI (numK T tn (nxK T tn (nxK T tn tk))))) (213 + 7 * (sn S 4) + 2) (nI (numK T tn (nxK T tn (nxK T tn (nxK T tn tk)))))) (213 + 7 * (sn S 4) + 3) (nI (numK T tn (nxK T tn (nxK T tn (nxK T tn (nxK T tn (nxK T tn tk)))))))) (213 + 7 * (sn S 4) + 4) (nI (numK T tn (nxK T tn (nxK T tn (nxK T tn (nxK T tn (nxK T tn (nxK T tn (nxK T tn tk)))))))))) (213 + 7 * (sn S 4) + 5) (nI (numK T tn (nxK T tn (nxK T tn (nxK T tn (nxK T tn (nxK T tn (nxK T tn (nxK T tn (nxK T tn (nxK T tn tk)))))))))))) (213 + 7 * (sn S 4) + 6) 0) := by rw [es33]; exact hDs32.life (by decide) (by unfold noLand; omega)
                      refine g_pure 5 (i' := 79) (lv' := [some (vR 4), some (vI (nI (sn S 4))), some (vR (334 + sn S 4))]) (st' := [vI 4, vR 303, vI 4, vR 303]) rfl ?_
                      refine g_ald rfl (g_A (a := 303) (kd := 1) (n := 6) rfl (by decide)) (by decide) (show 4 = nI 4 from (show (4 : Int32) = nI 4 from rfl)) (by decide) (show _ = S 4 from ((((((((hDs33.cnt (by decide))).trans (upd_ne (by omega))).trans (upd_ne (by omega))).trans (upd_ne (by omega))).trans (upd_ne (by omega))).trans (upd_ne (by omega))).trans (upd_ne (by omega))).trans (upd_ne (by omega))) ?_
                      refine g_pure 2 (i' := 82) (lv' := [some (vR 4), some (vI (nI (sn S 4))), some (vR (334 + sn S 4))]) (st' := [vI (S 4 + 1), vI 4, vR 303]) rfl ?_
                      refine gW_eq (lv' := [some (vR 4), some (vI (nI (sn S 4))), some (vR (334 + sn S 4))]) (st' := [vI (nI (sn S 4 + 1)), vI 4, vR 303]) rfl (by rw [(show (S 4 + 1) = nI (sn S 4 + 1) from ((g_add (hI.c4) (show (1 : Int32) = nI 1 from rfl))).trans (congrArg nI (by omega)))]) rfl ?_
                      refine g_ast rfl (g_A (a := 303) (kd := 1) (n := 6) rfl (by decide)) (by decide) (show 4 = nI 4 from (show (4 : Int32) = nI 4 from rfl)) (by decide) ?_
                      refine g_setv (fun s34 es34 => ?_)
                      have hTs34 : CT T tn (nxK T tn (nxK T tn (nxK T tn (nxK T tn (nxK T tn (nxK T tn (nxK T tn (nxK T tn (nxK T tn (nxK T tn tk)))))))))) s34 := hTs33.eq (by rw [es34, mu_ne (by omega)]) (by rw [es34, mu_ne (by omega)])
                      have hFs34 : FRc sg0 s34 := by rw [es34]; exact hFs33.mu (by omega)
                      have hLs34 : cwL 350 s34 (upd (upd (upd (upd (upd (upd (upd (upd S (213 + 7 * (sn S 4)) (nI (numK T tn (nxK T tn tk)))) (213 + 7 * (sn S 4) + 1) (nI (numK T tn (nxK T tn (nxK T tn tk))))) (213 + 7 * (sn S 4) + 2) (nI (numK T tn (nxK T tn (nxK T tn (nxK T tn tk)))))) (213 + 7 * (sn S 4) + 3) (nI (numK T tn (nxK T tn (nxK T tn (nxK T tn (nxK T tn (nxK T tn tk)))))))) (213 + 7 * (sn S 4) + 4) (nI (numK T tn (nxK T tn (nxK T tn (nxK T tn (nxK T tn (nxK T tn (nxK T tn (nxK T tn tk)))))))))) (213 + 7 * (sn S 4) + 5) (nI (numK T tn (nxK T tn (nxK T tn (nxK T tn (nxK T tn (nxK T tn (nxK T tn (nxK T tn (nxK T tn (nxK T tn tk)))))))))))) (213 + 7 * (sn S 4) + 6) 0) 4 (nI (sn S 4 + 1))) := by rw [es34]; exact hLs33.land (by omega) (by unfold noLand; omega)
                      have hDs34 : cwD 300 s34 (upd (upd (upd (upd (upd (upd (upd (upd S (213 + 7 * (sn S 4)) (nI (numK T tn (nxK T tn tk)))) (213 + 7 * (sn S 4) + 1) (nI (numK T tn (nxK T tn (nxK T tn tk))))) (213 + 7 * (sn S 4) + 2) (nI (numK T tn (nxK T tn (nxK T tn (nxK T tn tk)))))) (213 + 7 * (sn S 4) + 3) (nI (numK T tn (nxK T tn (nxK T tn (nxK T tn (nxK T tn (nxK T tn tk)))))))) (213 + 7 * (sn S 4) + 4) (nI (numK T tn (nxK T tn (nxK T tn (nxK T tn (nxK T tn (nxK T tn (nxK T tn (nxK T tn tk)))))))))) (213 + 7 * (sn S 4) + 5) (nI (numK T tn (nxK T tn (nxK T tn (nxK T tn (nxK T tn (nxK T tn (nxK T tn (nxK T tn (nxK T tn (nxK T tn tk)))))))))))) (213 + 7 * (sn S 4) + 6) 0) 4 (nI (sn S 4 + 1))) := by rw [es34]; exact hDs33.wcnt (by decide)
                      refine g_vret rfl ?_
                      exact o1 h1 s2 es2 h3 s4 es4 s6 es6 h7 s8 es8 s10 es10 h11 s12 es12 s14 es14 h15 s16 es16 h17 s18 es18 s20 es20 h21 s22 es22 h23 s24 es24 s26 es26 h27 s28 es28 h29 s30 es30 s32 es32 s33 es33 s34 es34 hTs34 hFs34 hLs34 hDs34
                    · refine g_cVxE rfl (args := [vR 4, vI (1 <<< (nI (numK T tn (nxK T tn (nxK T tn (nxK T tn (nxK T tn (nxK T tn (nxK T tn (nxK T tn tk)))))))) &&& 31))]) (rest := [vI 5, vR (334 + sn S 4)]) rfl rfl rfl (s_12pb (x := numK T tn (nxK T tn (nxK T tn (nxK T tn (nxK T tn (nxK T tn (nxK T tn (nxK T tn tk)))))))) (d := d) hTs28 (((((((hDs28.f5).trans (upd_ne (by omega))).trans (upd_ne (by omega))).trans (upd_ne (by omega))).trans (upd_ne (by omega))).trans (upd_ne (by omega))).trans (hI.c9)) (by omega) (by omega) (by assumption)) (fun s35 es35 => ?_)
                      exact o2 h1 s2 es2 h3 s4 es4 s6 es6 h7 s8 es8 s10 es10 h11 s12 es12 s14 es14 h15 s16 es16 h17 s18 es18 s20 es20 h21 s22 es22 h23 s24 es24 s26 es26 h27 s28 es28 h29 s35 es35 hTs28 hFs28 hLs28 hDs28
                  · refine g_cVxE rfl (args := [vR 1, vS 9]) (rest := []) rfl rfl rfl (s_73b (d := d + 2) (by decide) hTs26 (by assumption)) (fun s36 es36 => ?_)
                    exact o3 h1 s2 es2 h3 s4 es4 s6 es6 h7 s8 es8 s10 es10 h11 s12 es12 s14 es14 h15 s16 es16 h17 s18 es18 s20 es20 h21 s22 es22 h23 s24 es24 s26 es26 h27 s36 es36 hTs26 hFs26 hLs26 hDs26
                · refine g_cVxE rfl (args := [vR 4]) (rest := [vI 4, vR (334 + sn S 4)]) rfl rfl rfl (s_13b (d := d + 1) hTs22 ((((((hDs22.f5).trans (upd_ne (by omega))).trans (upd_ne (by omega))).trans (upd_ne (by omega))).trans (upd_ne (by omega))).trans (hI.c9)) (by omega) (by assumption)) (fun s37 es37 => ?_)
                  exact o4 h1 s2 es2 h3 s4 es4 s6 es6 h7 s8 es8 s10 es10 h11 s12 es12 s14 es14 h15 s16 es16 h17 s18 es18 s20 es20 h21 s22 es22 h23 s37 es37 hTs22 hFs22 hLs22 hDs22
              · refine g_cVxE rfl (args := [vR 1, vS 8]) (rest := []) rfl rfl rfl (s_73b (d := d + 2) (by decide) hTs20 (by assumption)) (fun s38 es38 => ?_)
                exact o5 h1 s2 es2 h3 s4 es4 s6 es6 h7 s8 es8 s10 es10 h11 s12 es12 s14 es14 h15 s16 es16 h17 s18 es18 s20 es20 h21 s38 es38 hTs20 hFs20 hLs20 hDs20
            · refine gW_eq (st' := [vI (nI 0), vR 4, vI 3, vR (334 + sn S 4)]) rfl (by rw [(show (0 : Int32) = nI 0 from rfl)]) rfl ?_
              refine g_cVxE rfl (args := [vR 4, vI (nI 0)]) (rest := [vI 3, vR (334 + sn S 4)]) rfl rfl rfl (s_15b (d := d + 1) hTs16 ((((((hDs16.cnt (by decide))).trans (upd_ne (by omega))).trans (upd_ne (by omega))).trans (upd_ne (by omega))).trans (hI.c0)) (by omega) (by omega) (by assumption)) (fun s39 es39 => ?_)
              exact o6 h1 s2 es2 h3 s4 es4 s6 es6 h7 s8 es8 s10 es10 h11 s12 es12 s14 es14 h15 s16 es16 h17 s39 es39 hTs16 hFs16 hLs16 hDs16
          · refine g_cVxE rfl (args := [vR 1, vS 7]) (rest := []) rfl rfl rfl (s_73b (d := d + 2) (by decide) hTs14 (by assumption)) (fun s40 es40 => ?_)
            exact o7 h1 s2 es2 h3 s4 es4 s6 es6 h7 s8 es8 s10 es10 h11 s12 es12 s14 es14 h15 s40 es40 hTs14 hFs14 hLs14 hDs14
        · refine gW_eq (st' := [vI 999, vI (nI 1), vI (nI 4), vR 1, vI 2, vR (334 + sn S 4)]) rfl (by rw [(show (4 : Int32) = nI 4 from rfl), (show (1 : Int32) = nI 1 from rfl)]) rfl ?_
          refine g_cVxE rfl (args := [vR 1, vI (nI 4), vI (nI 1), vI 999]) (rest := [vI 2, vR (334 + sn S 4)]) rfl rfl rfl (s_77b (m := 1000) (d := d + 2) hTs10 (by omega) (by omega) (by omega) (show (999 : Int32) = nI 1000 - 1 from by decide) (by assumption)) (fun s41 es41 => ?_)
          exact o8 h1 s2 es2 h3 s4 es4 s6 es6 h7 s8 es8 s10 es10 h11 s41 es41 hTs10 hFs10 hLs10 hDs10
      · refine gW_eq (st' := [vI (nI (numK T tn (nxK T tn tk))), vI (nI 1), vR 4, vI 1, vR (334 + sn S 4)]) rfl (by rw [(show (1 : Int32) = nI 1 from rfl)]) rfl ?_
        refine g_cVxE rfl (args := [vR 4, vI (nI 1), vI (nI (numK T tn (nxK T tn tk)))]) (rest := [vI 1, vR (334 + sn S 4)]) rfl rfl rfl (s_18b (d := d) hTs6 ((((hDs6.cnt (by decide))).trans (upd_ne (by omega))).trans (hI.c1)) (by omega) (by omega) (by omega) (by assumption)) (fun s42 es42 => ?_)
        exact o9 h1 s2 es2 h3 s4 es4 s6 es6 h7 s42 es42 hTs6 hFs6 hLs6 hDs6
    · refine gW_eq (st' := [vI (nI 1), vR 4, vI 0, vR (334 + sn S 4)]) rfl (by rw [(show (1 : Int32) = nI 1 from rfl)]) rfl ?_
      refine g_cVxE rfl (args := [vR 4, vI (nI 1)]) (rest := [vI 0, vR (334 + sn S 4)]) rfl rfl rfl (s_15b (d := d + 1) hTs2 (((hDs2.cnt (by decide))).trans (hI.c1)) (by omega) (by omega) (by assumption)) (fun s43 es43 => ?_)
      exact o10 h1 s2 es2 h3 s43 es43 hTs2 hFs2 hLs2 hDs2
  · refine gW_eq (st' := [vI (nI 8), vI (nI 4), vR 4]) rfl (by rw [(show (4 : Int32) = nI 4 from rfl), (show (8 : Int32) = nI 8 from rfl)]) rfl ?_
    refine g_cVxE rfl (args := [vR 4, vI (nI 4), vI (nI 8)]) (rest := []) rfl rfl rfl (s_11b (d := d + 2) hT (((hD.cnt (by decide))).trans (hI.c4)) (by omega) (by omega) (by omega) (by assumption)) (fun s44 es44 => ?_)
    exact o11 h1 s44 es44 hT hF hL hD

noncomputable def prDeb (T : Nat → Int32) (n k : Nat) (S : Nat → Int32) : PRs := (sel (sn S 4 < 8) (sel (tkP T n (nxK T n k) 4 0 (sn S 1)) (sel (tkN T n (nxK T n (nxK T n k)) (sn S 1) (numK T n (nxK T n k))) (sel (tkP T n (nxK T n (nxK T n (nxK T n k))) 4 1 1000) (sel (isW T n (nxK T n (nxK T n (nxK T n (nxK T n k)))) (am_SL 7)) (sel (tkP T n (nxK T n (nxK T n (nxK T n (nxK T n (nxK T n k))))) 4 0 (sn S 0)) (sel (isW T n (nxK T n (nxK T n (nxK T n (nxK T n (nxK T n (nxK T n k)))))) (am_SL 8)) (sel (tkP T n (nxK T n (nxK T n (nxK T n (nxK T n (nxK T n (nxK T n (nxK T n k))))))) 4 0 (sn S 9)) (sel (isW T n (nxK T n (nxK T n (nxK T n (nxK T n (nxK T n (nxK T n (nxK T n (nxK T n k)))))))) (am_SL 9)) (sel (tkN T n (nxK T n (nxK T n (nxK T n (nxK T n (nxK T n (nxK T n (nxK T n (nxK T n (nxK T n k))))))))) (sn S 9) (numK T n (nxK T n (nxK T n (nxK T n (nxK T n (nxK T n (nxK T n (nxK T n k))))))))) (.inr (nxK T n (nxK T n (nxK T n (nxK T n (nxK T n (nxK T n (nxK T n (nxK T n (nxK T n (nxK T n k))))))))), (upd (upd (upd (upd (upd (upd (upd (upd S (213 + 7 * (sn S 4)) (nI (numK T n (nxK T n k)))) (213 + 7 * (sn S 4) + 1) (nI (numK T n (nxK T n (nxK T n k))))) (213 + 7 * (sn S 4) + 2) (nI (numK T n (nxK T n (nxK T n (nxK T n k)))))) (213 + 7 * (sn S 4) + 3) (nI (numK T n (nxK T n (nxK T n (nxK T n (nxK T n (nxK T n k)))))))) (213 + 7 * (sn S 4) + 4) (nI (numK T n (nxK T n (nxK T n (nxK T n (nxK T n (nxK T n (nxK T n (nxK T n k)))))))))) (213 + 7 * (sn S 4) + 5) (nI (numK T n (nxK T n (nxK T n (nxK T n (nxK T n (nxK T n (nxK T n (nxK T n (nxK T n (nxK T n k)))))))))))) (213 + 7 * (sn S 4) + 6) 0) 4 (nI (sn S 4 + 1))))) (.inl (spK T n (nxK T n (nxK T n (nxK T n (nxK T n (nxK T n (nxK T n (nxK T n (nxK T n (nxK T n k)))))))))))) (.inl (spK T n (nxK T n (nxK T n (nxK T n (nxK T n (nxK T n (nxK T n (nxK T n (nxK T n k))))))))))) (.inl (spK T n (nxK T n (nxK T n (nxK T n (nxK T n (nxK T n (nxK T n (nxK T n k)))))))))) (.inl (spK T n (nxK T n (nxK T n (nxK T n (nxK T n (nxK T n (nxK T n k))))))))) (.inl (spK T n (nxK T n (nxK T n (nxK T n (nxK T n (nxK T n k)))))))) (.inl (spK T n (nxK T n (nxK T n (nxK T n (nxK T n k))))))) (.inl (spK T n (nxK T n (nxK T n (nxK T n k)))))) (.inl (spK T n (nxK T n (nxK T n k))))) (.inl (spK T n (nxK T n k)))) (.inl (spK T n k)))

theorem s_19 {X : Nat × (Nat → Int32)} {d : Nat} {p : Nat → Nat} {sg : Mg} {B : Nat} {S : Nat → Int32} (hI : Inv B S) (hL : cwL 350 sg S) (hD : cwD 300 sg S) {T : Nat → Int32} {tn tk : Nat} (hT : CT T tn tk sg) : gF X (d + 5) 19 [vR 4] p sg (lnC (prDeb T tn tk S) T tn sg p) := by
  refine g_in (cd := k_19) (nL := 3) (rc := 2) rfl (g_A (a := 4) (kd := 0) (n := 1) rfl (by decide)) (g_c1 rfl) (b_19_0 hI hL hD hT (FRc.rf sg) ?_ ?_ ?_ ?_ ?_ ?_ ?_ ?_ ?_ ?_ ?_)
  · intro h0 s1 e1 h2 s3 e3 s4 e4 h5 s6 e6 s7 e7 h8 s9 e9 s10 e10 h11 s12 e12 h13 s14 e14 s15 e15 h16 s17 e17 h18 s19 e19 s20 e20 h21 s22 e22 h23 s24 e24 s25 e25 s26 e26 s27 e27 cT cF cL cD
    unfold prDeb
    rw [sel_t h0, sel_t h2, sel_t h5, sel_t h8, sel_t h11, sel_t h13, sel_t h16, sel_t h18, sel_t h21, sel_t h23]
    exact ⟨_, ⟨cF, cT, cL, cD⟩, rfl⟩
  · intro h0 s1 e1 h2 s3 e3 s4 e4 h5 s6 e6 s7 e7 h8 s9 e9 s10 e10 h11 s12 e12 h13 s14 e14 s15 e15 h16 s17 e17 h18 s19 e19 s20 e20 h21 s22 e22 h23 s24 e24 cT cF cL cD
    unfold prDeb
    rw [sel_t h0, sel_t h2, sel_t h5, sel_t h8, sel_t h11, sel_t h13, sel_t h16, sel_t h18, sel_t h21, sel_f h23]
    exact LF.of cF e24
  · intro h0 s1 e1 h2 s3 e3 s4 e4 h5 s6 e6 s7 e7 h8 s9 e9 s10 e10 h11 s12 e12 h13 s14 e14 s15 e15 h16 s17 e17 h18 s19 e19 s20 e20 h21 s22 e22 cT cF cL cD
    unfold prDeb
    rw [sel_t h0, sel_t h2, sel_t h5, sel_t h8, sel_t h11, sel_t h13, sel_t h16, sel_t h18, sel_f h21]
    exact LF.of cF e22
  · intro h0 s1 e1 h2 s3 e3 s4 e4 h5 s6 e6 s7 e7 h8 s9 e9 s10 e10 h11 s12 e12 h13 s14 e14 s15 e15 h16 s17 e17 h18 s19 e19 cT cF cL cD
    unfold prDeb
    rw [sel_t h0, sel_t h2, sel_t h5, sel_t h8, sel_t h11, sel_t h13, sel_t h16, sel_f h18]
    exact LF.of cF e19
  · intro h0 s1 e1 h2 s3 e3 s4 e4 h5 s6 e6 s7 e7 h8 s9 e9 s10 e10 h11 s12 e12 h13 s14 e14 s15 e15 h16 s17 e17 cT cF cL cD
    unfold prDeb
    rw [sel_t h0, sel_t h2, sel_t h5, sel_t h8, sel_t h11, sel_t h13, sel_f h16]
    exact LF.of cF e17
  · intro h0 s1 e1 h2 s3 e3 s4 e4 h5 s6 e6 s7 e7 h8 s9 e9 s10 e10 h11 s12 e12 h13 s14 e14 cT cF cL cD
    unfold prDeb
    rw [sel_t h0, sel_t h2, sel_t h5, sel_t h8, sel_t h11, sel_f h13]
    exact LF.of cF e14
  · intro h0 s1 e1 h2 s3 e3 s4 e4 h5 s6 e6 s7 e7 h8 s9 e9 s10 e10 h11 s12 e12 cT cF cL cD
    unfold prDeb
    rw [sel_t h0, sel_t h2, sel_t h5, sel_t h8, sel_f h11]
    exact LF.of cF e12
  · intro h0 s1 e1 h2 s3 e3 s4 e4 h5 s6 e6 s7 e7 h8 s9 e9 cT cF cL cD
    unfold prDeb
    rw [sel_t h0, sel_t h2, sel_t h5, sel_f h8]
    exact LF.of cF e9
  · intro h0 s1 e1 h2 s3 e3 s4 e4 h5 s6 e6 cT cF cL cD
    unfold prDeb
    rw [sel_t h0, sel_t h2, sel_f h5]
    exact LF.of cF e6
  · intro h0 s1 e1 h2 s3 e3 cT cF cL cD
    unfold prDeb
    rw [sel_t h0, sel_f h2]
    exact LF.of cF e3
  · intro h0 s1 e1 cT cF cL cD
    unfold prDeb
    rw [sel_f h0]
    exact LF.of cF e1

theorem b_20_0 {X : Nat × (Nat → Int32)} {d : Nat} {p : Nat → Nat} {sg : Mg} {Q : am_R → Prop} {B : Nat} {S : Nat → Int32} (hI : Inv B S) (hL : cwL 350 sg S) (hD : cwD 300 sg S) {T : Nat → Int32} {tn tk : Nat} (hT : CT T tn tk sg) {sg0 : Mg} (hF : FRc sg0 sg)
    (o1 : (sn S 5 < 8) → ∀ s2 : Mg, (CT T tn (nxK T tn tk) s2 ∧ CN sg s2) → (tkP T tn (nxK T tn tk) 4 0 (sn S 0)) → ∀ s4 : Mg, (CT T tn (nxK T tn (nxK T tn tk)) s4 ∧ CN s2 s4) → ∀ s6 : Mg, s6 = mu s4 (342 + sn S 5) 0 (nI (numK T tn (nxK T tn tk))) → (tkP T tn (nxK T tn (nxK T tn tk)) 4 0 (sn S 9)) → ∀ s8 : Mg, (CT T tn (nxK T tn (nxK T tn (nxK T tn tk))) s8 ∧ CN s6 s8) → ∀ s10 : Mg, s10 = mu s8 (342 + sn S 5) 1 (nI (numK T tn (nxK T tn (nxK T tn tk)))) → ∀ s11 : Mg, s11 = mu s10 (342 + sn S 5) 2 (-1) → (¬ (dcN (isW T tn (nxK T tn (nxK T tn (nxK T tn tk))) (am_SL 11)) = true)) → ∀ s13 : Mg, s13 = mu s11 359 (sn S 5) (-1) → ∀ s14 : Mg, s14 = mu s13 360 (sn S 5) (-1) → ∀ s15 : Mg, s15 = mu s14 303 5 (nI (sn S 5 + 1)) → CT T tn (nxK T tn (nxK T tn (nxK T tn tk))) s15 → FRc sg0 s15 → cwL 350 s15 (upd (upd (upd (upd (upd (upd S (269 + 5 * (sn S 5)) (nI (numK T tn (nxK T tn tk)))) (269 + 5 * (sn S 5) + 1) (nI (numK T tn (nxK T tn (nxK T tn tk))))) (269 + 5 * (sn S 5) + 2) (-1)) (269 + 5 * (sn S 5) + 3) (-1)) (269 + 5 * (sn S 5) + 4) (-1)) 5 (nI (sn S 5 + 1))) → cwD 300 s15 (upd (upd (upd (upd (upd (upd S (269 + 5 * (sn S 5)) (nI (numK T tn (nxK T tn tk)))) (269 + 5 * (sn S 5) + 1) (nI (numK T tn (nxK T tn (nxK T tn tk))))) (269 + 5 * (sn S 5) + 2) (-1)) (269 + 5 * (sn S 5) + 3) (-1)) (269 + 5 * (sn S 5) + 4) (-1)) 5 (nI (sn S 5 + 1))) → Q (gR0 p s15))
    (o2 : (sn S 5 < 8) → ∀ s2 : Mg, (CT T tn (nxK T tn tk) s2 ∧ CN sg s2) → (tkP T tn (nxK T tn tk) 4 0 (sn S 0)) → ∀ s4 : Mg, (CT T tn (nxK T tn (nxK T tn tk)) s4 ∧ CN s2 s4) → ∀ s6 : Mg, s6 = mu s4 (342 + sn S 5) 0 (nI (numK T tn (nxK T tn tk))) → (tkP T tn (nxK T tn (nxK T tn tk)) 4 0 (sn S 9)) → ∀ s8 : Mg, (CT T tn (nxK T tn (nxK T tn (nxK T tn tk))) s8 ∧ CN s6 s8) → ∀ s10 : Mg, s10 = mu s8 (342 + sn S 5) 1 (nI (numK T tn (nxK T tn (nxK T tn tk)))) → ∀ s11 : Mg, s11 = mu s10 (342 + sn S 5) 2 (-1) → ((dcN (isW T tn (nxK T tn (nxK T tn (nxK T tn tk))) (am_SL 11)) = true)) → ∀ s16 : Mg, (CT T tn (nxK T tn (nxK T tn (nxK T tn (nxK T tn tk)))) s16 ∧ CN s11 s16) → (tkP T tn (nxK T tn (nxK T tn (nxK T tn (nxK T tn tk)))) 4 0 (sn S 5)) → ∀ s18 : Mg, (CT T tn (nxK T tn (nxK T tn (nxK T tn (nxK T tn (nxK T tn tk))))) s18 ∧ CN s16 s18) → ∀ s20 : Mg, s20 = mu s18 (342 + sn S 5) 2 (nI (numK T tn (nxK T tn (nxK T tn (nxK T tn (nxK T tn tk)))))) → ∀ s21 : Mg, s21 = mu s20 359 (sn S 5) (-1) → ∀ s22 : Mg, s22 = mu s21 360 (sn S 5) (-1) → ∀ s23 : Mg, s23 = mu s22 303 5 (nI (sn S 5 + 1)) → CT T tn (nxK T tn (nxK T tn (nxK T tn (nxK T tn (nxK T tn tk))))) s23 → FRc sg0 s23 → cwL 350 s23 (upd (upd (upd (upd (upd (upd (upd S (269 + 5 * (sn S 5)) (nI (numK T tn (nxK T tn tk)))) (269 + 5 * (sn S 5) + 1) (nI (numK T tn (nxK T tn (nxK T tn tk))))) (269 + 5 * (sn S 5) + 2) (-1)) (269 + 5 * (sn S 5) + 2) (nI (numK T tn (nxK T tn (nxK T tn (nxK T tn (nxK T tn tk))))))) (269 + 5 * (sn S 5) + 3) (-1)) (269 + 5 * (sn S 5) + 4) (-1)) 5 (nI (sn S 5 + 1))) → cwD 300 s23 (upd (upd (upd (upd (upd (upd (upd S (269 + 5 * (sn S 5)) (nI (numK T tn (nxK T tn tk)))) (269 + 5 * (sn S 5) + 1) (nI (numK T tn (nxK T tn (nxK T tn tk))))) (269 + 5 * (sn S 5) + 2) (-1)) (269 + 5 * (sn S 5) + 2) (nI (numK T tn (nxK T tn (nxK T tn (nxK T tn (nxK T tn tk))))))) (269 + 5 * (sn S 5) + 3) (-1)) (269 + 5 * (sn S 5) + 4) (-1)) 5 (nI (sn S 5 + 1))) → Q (gR0 p s23))
    (o3 : (sn S 5 < 8) → ∀ s2 : Mg, (CT T tn (nxK T tn tk) s2 ∧ CN sg s2) → (tkP T tn (nxK T tn tk) 4 0 (sn S 0)) → ∀ s4 : Mg, (CT T tn (nxK T tn (nxK T tn tk)) s4 ∧ CN s2 s4) → ∀ s6 : Mg, s6 = mu s4 (342 + sn S 5) 0 (nI (numK T tn (nxK T tn tk))) → (tkP T tn (nxK T tn (nxK T tn tk)) 4 0 (sn S 9)) → ∀ s8 : Mg, (CT T tn (nxK T tn (nxK T tn (nxK T tn tk))) s8 ∧ CN s6 s8) → ∀ s10 : Mg, s10 = mu s8 (342 + sn S 5) 1 (nI (numK T tn (nxK T tn (nxK T tn tk)))) → ∀ s11 : Mg, s11 = mu s10 (342 + sn S 5) 2 (-1) → ((dcN (isW T tn (nxK T tn (nxK T tn (nxK T tn tk))) (am_SL 11)) = true)) → ∀ s16 : Mg, (CT T tn (nxK T tn (nxK T tn (nxK T tn (nxK T tn tk)))) s16 ∧ CN s11 s16) → (¬ tkP T tn (nxK T tn (nxK T tn (nxK T tn (nxK T tn tk)))) 4 0 (sn S 5)) → ∀ s24 : Mg, (CF (spK T tn (nxK T tn (nxK T tn (nxK T tn (nxK T tn tk))))) s16 s24) → CT T tn (nxK T tn (nxK T tn (nxK T tn (nxK T tn tk)))) s16 → FRc sg0 s16 → cwL 350 s16 (upd (upd (upd S (269 + 5 * (sn S 5)) (nI (numK T tn (nxK T tn tk)))) (269 + 5 * (sn S 5) + 1) (nI (numK T tn (nxK T tn (nxK T tn tk))))) (269 + 5 * (sn S 5) + 2) (-1)) → cwD 300 s16 (upd (upd (upd S (269 + 5 * (sn S 5)) (nI (numK T tn (nxK T tn tk)))) (269 + 5 * (sn S 5) + 1) (nI (numK T tn (nxK T tn (nxK T tn tk))))) (269 + 5 * (sn S 5) + 2) (-1)) → Q (gRx p s24 0))
    (o4 : (sn S 5 < 8) → ∀ s2 : Mg, (CT T tn (nxK T tn tk) s2 ∧ CN sg s2) → (tkP T tn (nxK T tn tk) 4 0 (sn S 0)) → ∀ s4 : Mg, (CT T tn (nxK T tn (nxK T tn tk)) s4 ∧ CN s2 s4) → ∀ s6 : Mg, s6 = mu s4 (342 + sn S 5) 0 (nI (numK T tn (nxK T tn tk))) → (¬ tkP T tn (nxK T tn (nxK T tn tk)) 4 0 (sn S 9)) → ∀ s25 : Mg, (CF (spK T tn (nxK T tn (nxK T tn tk))) s6 s25) → CT T tn (nxK T tn (nxK T tn tk)) s6 → FRc sg0 s6 → cwL 350 s6 (upd S (269 + 5 * (sn S 5)) (nI (numK T tn (nxK T tn tk)))) → cwD 300 s6 (upd S (269 + 5 * (sn S 5)) (nI (numK T tn (nxK T tn tk)))) → Q (gRx p s25 0))
    (o5 : (sn S 5 < 8) → ∀ s2 : Mg, (CT T tn (nxK T tn tk) s2 ∧ CN sg s2) → (¬ tkP T tn (nxK T tn tk) 4 0 (sn S 0)) → ∀ s26 : Mg, (CF (spK T tn (nxK T tn tk)) s2 s26) → CT T tn (nxK T tn tk) s2 → FRc sg0 s2 → cwL 350 s2 S → cwD 300 s2 S → Q (gRx p s26 0))
    (o6 : (¬ (sn S 5 < 8)) → ∀ s27 : Mg, (CF (spK T tn tk) sg s27) → CT T tn tk sg → FRc sg0 sg → cwL 350 sg S → cwD 300 sg S → Q (gRx p s27 0)) :
    gW X (d + 4) k_20 0 [some (vR 4), none, none] [] p sg Q := by
  have b0 := hI.b0; have b1 := hI.b1; have b2 := hI.b2; have b3 := hI.b3; have b4 := hI.b4; have b5 := hI.b5; have b6 := hI.b6; have b7 := hI.b7; have b8 := hI.b8; have b9 := hI.b9; have b14 := hI.b14
  refine g_pure 3 (i' := 3) (lv' := [some (vR 4), none, none]) (st' := [vI 8, vI 5, vR 4]) rfl ?_
  by_cases h1 : sn S 5 < 8
  · refine gW_eq (st' := [vI (nI 8), vI (nI 5), vR 4]) rfl (by rw [(show (5 : Int32) = nI 5 from rfl), (show (8 : Int32) = nI 8 from rfl)]) rfl ?_
    refine g_cV1E rfl (args := [vR 4, vI (nI 5), vI (nI 8)]) (rest := []) rfl rfl rfl (s_11a (d := d + 2) hT (((hD.cnt (by decide))).trans (hI.c5)) (by omega) (by omega) (by omega) (by assumption)) (fun s2 es2 => ?_)
    have hTs2 := es2.1
    have hFs2 := hF.cn es2.2
    have hLs2 : cwL 350 s2 S := hL.eqc (fun c c1 c2 => es2.2.1 c (by omega))
    have hDs2 : cwD 300 s2 S := hD.eqc (fun c c1 => es2.2.1 c (by omega))
    refine g_pure 5 (i' := 9) (lv' := [some (vR 4), some (vI (nI (sn S 5))), none]) (st' := [vI (nI (sn S 5)), vR 307]) rfl ?_
    refine g_aald rfl (Or.inl rfl) (g_A (a := 307) (kd := 5) (n := 8) rfl (by decide)) (by decide) (show nI (sn S 5) = nI (sn S 5) from (rfl : nI (sn S 5) = nI (sn S 5))) (by omega) (gR_307 (by omega)) ?_
    refine g_pure 5 (i' := 15) (lv' := [some (vR 4), some (vI (nI (sn S 5))), some (vR (342 + sn S 5))]) (st' := [vI 0, vR 4, vI 0, vR (342 + sn S 5)]) rfl ?_
    by_cases h3 : tkP T tn (nxK T tn tk) 4 0 (sn S 0)
    · refine gW_eq (st' := [vI (nI 0), vR 4, vI 0, vR (342 + sn S 5)]) rfl (by rw [(show (0 : Int32) = nI 0 from rfl)]) rfl ?_
      refine g_cV1E rfl (args := [vR 4, vI (nI 0)]) (rest := [vI 0, vR (342 + sn S 5)]) rfl rfl rfl (s_15a (d := d + 1) hTs2 (((hDs2.cnt (by decide))).trans (hI.c0)) (by omega) (by omega) (by assumption)) (fun s4 es4 => ?_)
      have hTs4 := es4.1
      have hFs4 := hFs2.cn es4.2
      have hLs4 : cwL 350 s4 S := hLs2.eqc (fun c c1 c2 => es4.2.1 c (by omega))
      have hDs4 : cwD 300 s4 S := hDs2.eqc (fun c c1 => es4.2.1 c (by omega))
      have t5 := (show tkP T tn (nxK T tn tk) 4 0 (sn S 0) by assumption).2.2.2
      refine g_ast rfl (gA_307 (by omega)) (by decide) (show 0 = nI 0 from (show (0 : Int32) = nI 0 from rfl)) (by decide) ?_
      refine g_setv (fun s6 es6 => ?_)
      have hTs6 : CT T tn (nxK T tn (nxK T tn tk)) s6 := hTs4.eq (by rw [es6, mu_ne (by omega)]) (by rw [es6, mu_ne (by omega)])
      have hFs6 : FRc sg0 s6 := by rw [es6]; exact hFs4.mu (by omega)
      have hLs6 : cwL 350 s6 (upd S (269 + 5 * (sn S 5)) (nI (numK T tn (nxK T tn tk)))) := by rw [es6]; exact hLs4.land (by omega) (by unfold noLand; omega)
      have hDs6 : cwD 300 s6 (upd S (269 + 5 * (sn S 5)) (nI (numK T tn (nxK T tn tk)))) := by rw [es6]; exact hDs4.wtas (by omega) (by omega)
      refine g_pure 3 (i' := 20) (lv' := [some (vR 4), some (vI (nI (sn S 5))), some (vR (342 + sn S 5))]) (st' := [vR 4, vI 1, vR (342 + sn S 5)]) rfl ?_
      by_cases h7 : tkP T tn (nxK T tn (nxK T tn tk)) 4 0 (sn S 9)
      · refine g_cV1E rfl (args := [vR 4]) (rest := [vI 1, vR (342 + sn S 5)]) rfl rfl rfl (s_13a (d := d + 1) hTs6 (((hDs6.f5).trans (upd_ne (by omega))).trans (hI.c9)) (by omega) (by assumption)) (fun s8 es8 => ?_)
        have hTs8 := es8.1
        have hFs8 := hFs6.cn es8.2
        have hLs8 : cwL 350 s8 (upd S (269 + 5 * (sn S 5)) (nI (numK T tn (nxK T tn tk)))) := hLs6.eqc (fun c c1 c2 => es8.2.1 c (by omega))
        have hDs8 : cwD 300 s8 (upd S (269 + 5 * (sn S 5)) (nI (numK T tn (nxK T tn tk)))) := hDs6.eqc (fun c c1 => es8.2.1 c (by omega))
        have t9 := (show tkP T tn (nxK T tn (nxK T tn tk)) 4 0 (sn S 9) by assumption).2.2.2
        refine g_ast rfl (gA_307 (by omega)) (by decide) (show 1 = nI 1 from (show (1 : Int32) = nI 1 from rfl)) (by decide) ?_
        refine g_setv (fun s10 es10 => ?_)
        have hTs10 : CT T tn (nxK T tn (nxK T tn (nxK T tn tk))) s10 := hTs8.eq (by rw [es10, mu_ne (by omega)]) (by rw [es10, mu_ne (by omega)])
        have hFs10 : FRc sg0 s10 := by rw [es10]; exact hFs8.mu (by omega)
        have hLs10 : cwL 350 s10 (upd (upd S (269 + 5 * (sn S 5)) (nI (numK T tn (nxK T tn tk)))) (269 + 5 * (sn S 5) + 1) (nI (numK T tn (nxK T tn (nxK T tn tk))))) := by rw [es10]; exact hLs8.land (by omega) (by unfold noLand; omega)
        have hDs10 : cwD 300 s10 (upd (upd S (269 + 5 * (sn S 5)) (nI (numK T tn (nxK T tn tk)))) (269 + 5 * (sn S 5) + 1) (nI (numK T tn (nxK T tn (nxK T tn tk))))) := by rw [es10]; exact hDs8.wtas (by omega) (by omega)
        refine g_pure 3 (i' := 25) (lv' := [some (vR 4), some (vI (nI (sn S 5))), some (vR (342 + sn S 5))]) (st' := [vI (-1), vI 2, vR (342 + sn S 5)]) rfl ?_
        refine g_ast rfl (gA_307 (by omega)) (by decide) (show 2 = nI 2 from (show (2 : Int32) = nI 2 from rfl)) (by decide) ?_
        refine g_setv (fun s11 es11 => ?_)
        have hTs11 : CT T tn (nxK T tn (nxK T tn (nxK T tn tk))) s11 := hTs10.eq (by rw [es11, mu_ne (by omega)]) (by rw [es11, mu_ne (by omega)])
        have hFs11 : FRc sg0 s11 := by rw [es11]; exact hFs10.mu (by omega)
        have hLs11 : cwL 350 s11 (upd (upd (upd S (269 + 5 * (sn S 5)) (nI (numK T tn (nxK T tn tk)))) (269 + 5 * (sn S 5) + 1) (nI (numK T tn (nxK T tn (nxK T tn tk))))) (269 + 5 * (sn S 5) + 2) (-1)) := by rw [es11]; exact hLs10.land (by omega) (by unfold noLand; omega)
        have hDs11 : cwD 300 s11 (upd (upd (upd S (269 + 5 * (sn S 5)) (nI (numK T tn (nxK T tn tk)))) (269 + 5 * (sn S 5) + 1) (nI (numK T tn (nxK T tn (nxK T tn tk))))) (269 + 5 * (sn S 5) + 2) (-1)) := by rw [es11]; exact hDs10.wtas (by omega) (by omega)
        refine g_pure 3 (i' := 29) (lv' := [some (vR 4), some (vI (nI (sn S 5))), some (vR (342 + sn S 5))]) (st' := [vS 11, vR 1]) rfl ?_
        refine g_cV1 rfl (args := [vR 1, vS 11]) (rest := []) rfl rfl rfl (s_74 (d := d + 3) (by decide) hTs11) ?_
        refine g_if1 (i' := 40) (P := ¬ (dcN (isW T tn (nxK T tn (nxK T tn (nxK T tn tk))) (am_SL 11)) = true)) rfl rfl g_eqB (fun h12 => ?_) (fun h12 => ?_)
        · refine g_pure 5 (i' := 45) (lv' := [some (vR 4), some (vI (nI (sn S 5))), some (vR (342 + sn S 5))]) (st' := [vI (-1), vI (nI (sn S 5)), vR 359]) rfl ?_
          refine g_ast rfl (g_A (a := 359) (kd := 1) (n := 8) rfl (by decide)) (by decide) (show nI (sn S 5) = nI (sn S 5) from (rfl : nI (sn S 5) = nI (sn S 5))) (by omega) ?_
          refine g_setv (fun s13 es13 => ?_)
          have hTs13 : CT T tn (nxK T tn (nxK T tn (nxK T tn tk))) s13 := hTs11.eq (by rw [es13, mu_ne (by omega)]) (by rw [es13, mu_ne (by omega)])
          have hFs13 : FRc sg0 s13 := by rw [es13]; exact hFs11.mu (by omega)
          have hLs13 : cwL 350 s13 (upd (upd (upd (upd S (269 + 5 * (sn S 5)) (nI (numK T tn (nxK T tn tk)))) (269 + 5 * (sn S 5) + 1) (nI (numK T tn (nxK T tn (nxK T tn tk))))) (269 + 5 * (sn S 5) + 2) (-1)) (269 + 5 * (sn S 5) + 3) (-1)) := by rw [es13]; exact hLs11.wdon (j := 0) (by decide) (by omega)
          have hDs13 : cwD 300 s13 (upd (upd (upd (upd S (269 + 5 * (sn S 5)) (nI (numK T tn (nxK T tn tk)))) (269 + 5 * (sn S 5) + 1) (nI (numK T tn (nxK T tn (nxK T tn tk))))) (269 + 5 * (sn S 5) + 2) (-1)) (269 + 5 * (sn S 5) + 3) (-1)) := by rw [es13]; exact hDs11.life (by decide) (by unfold noLand; omega)
          refine g_pure 5 (i' := 51) (lv' := [some (vR 4), some (vI (nI (sn S 5))), some (vR (342 + sn S 5))]) (st' := [vI (-1), vI (nI (sn S 5)), vR 360]) rfl ?_
          refine g_ast rfl (g_A (a := 360) (kd := 1) (n := 8) rfl (by decide)) (by decide) (show nI (sn S 5) = nI (sn S 5) from (rfl : nI (sn S 5) = nI (sn S 5))) (by omega) ?_
          refine g_setv (fun s14 es14 => ?_)
          have hTs14 : CT T tn (nxK T tn (nxK T tn (nxK T tn tk))) s14 := hTs13.eq (by rw [es14, mu_ne (by omega)]) (by rw [es14, mu_ne (by omega)])
          have hFs14 : FRc sg0 s14 := by rw [es14]; exact hFs13.mu (by omega)
          have hLs14 : cwL 350 s14 (upd (upd (upd (upd (upd S (269 + 5 * (sn S 5)) (nI (numK T tn (nxK T tn tk)))) (269 + 5 * (sn S 5) + 1) (nI (numK T tn (nxK T tn (nxK T tn tk))))) (269 + 5 * (sn S 5) + 2) (-1)) (269 + 5 * (sn S 5) + 3) (-1)) (269 + 5 * (sn S 5) + 4) (-1)) := by rw [es14]; exact hLs13.wdon (j := 1) (by decide) (by omega)
          have hDs14 : cwD 300 s14 (upd (upd (upd (upd (upd S (269 + 5 * (sn S 5)) (nI (numK T tn (nxK T tn tk)))) (269 + 5 * (sn S 5) + 1) (nI (numK T tn (nxK T tn (nxK T tn tk))))) (269 + 5 * (sn S 5) + 2) (-1)) (269 + 5 * (sn S 5) + 3) (-1)) (269 + 5 * (sn S 5) + 4) (-1)) := by rw [es14]; exact hDs13.life (by decide) (by unfold noLand; omega)
          refine g_pure 5 (i' := 57) (lv' := [some (vR 4), some (vI (nI (sn S 5))), some (vR (342 + sn S 5))]) (st' := [vI 5, vR 303, vI 5, vR 303]) rfl ?_
          refine g_ald rfl (g_A (a := 303) (kd := 1) (n := 6) rfl (by decide)) (by decide) (show 5 = nI 5 from (show (5 : Int32) = nI 5 from rfl)) (by decide) (show _ = S 5 from ((((((hDs14.cnt (by decide))).trans (upd_ne (by omega))).trans (upd_ne (by omega))).trans (upd_ne (by omega))).trans (upd_ne (by omega))).trans (upd_ne (by omega))) ?_
          refine g_pure 2 (i' := 60) (lv' := [some (vR 4), some (vI (nI (sn S 5))), some (vR (342 + sn S 5))]) (st' := [vI (S 5 + 1), vI 5, vR 303]) rfl ?_
          refine gW_eq (lv' := [some (vR 4), some (vI (nI (sn S 5))), some (vR (342 + sn S 5))]) (st' := [vI (nI (sn S 5 + 1)), vI 5, vR 303]) rfl (by rw [(show (S 5 + 1) = nI (sn S 5 + 1) from ((g_add (hI.c5) (show (1 : Int32) = nI 1 from rfl))).trans (congrArg nI (by omega)))]) rfl ?_
          refine g_ast rfl (g_A (a := 303) (kd := 1) (n := 6) rfl (by decide)) (by decide) (show 5 = nI 5 from (show (5 : Int32) = nI 5 from rfl)) (by decide) ?_
          refine g_setv (fun s15 es15 => ?_)
          have hTs15 : CT T tn (nxK T tn (nxK T tn (nxK T tn tk))) s15 := hTs14.eq (by rw [es15, mu_ne (by omega)]) (by rw [es15, mu_ne (by omega)])
          have hFs15 : FRc sg0 s15 := by rw [es15]; exact hFs14.mu (by omega)
          have hLs15 : cwL 350 s15 (upd (upd (upd (upd (upd (upd S (269 + 5 * (sn S 5)) (nI (numK T tn (nxK T tn tk)))) (269 + 5 * (sn S 5) + 1) (nI (numK T tn (nxK T tn (nxK T tn tk))))) (269 + 5 * (sn S 5) + 2) (-1)) (269 + 5 * (sn S 5) + 3) (-1)) (269 + 5 * (sn S 5) + 4) (-1)) 5 (nI (sn S 5 + 1))) := by rw [es15]; exact hLs14.land (by omega) (by unfold noLand; omega)
          have hDs15 : cwD 300 s15 (upd (upd (upd (upd (upd (upd S (269 + 5 * (sn S 5)) (nI (numK T tn (nxK T tn tk)))) (269 + 5 * (sn S 5) + 1) (nI (numK T tn (nxK T tn (nxK T tn tk))))) (269 + 5 * (sn S 5) + 2) (-1)) (269 + 5 * (sn S 5) + 3) (-1)) (269 + 5 * (sn S 5) + 4) (-1)) 5 (nI (sn S 5 + 1))) := by rw [es15]; exact hDs14.wcnt (by decide)
          refine g_vret rfl ?_
          exact o1 h1 s2 es2 h3 s4 es4 s6 es6 h7 s8 es8 s10 es10 s11 es11 h12 s13 es13 s14 es14 s15 es15 hTs15 hFs15 hLs15 hDs15
        · have h12 := Classical.not_not.mp h12
          refine g_pure 2 (i' := 33) (lv' := [some (vR 4), some (vI (nI (sn S 5))), some (vR (342 + sn S 5))]) (st' := [vR 1]) rfl ?_
          refine g_cV0E rfl (args := [vR 1]) (rest := []) rfl rfl rfl (s_70 (d := d + 3) hTs11) (fun s16 es16 => ?_)
          have hTs16 := es16.1
          have hFs16 := hFs11.cn es16.2
          have hLs16 : cwL 350 s16 (upd (upd (upd S (269 + 5 * (sn S 5)) (nI (numK T tn (nxK T tn tk)))) (269 + 5 * (sn S 5) + 1) (nI (numK T tn (nxK T tn (nxK T tn tk))))) (269 + 5 * (sn S 5) + 2) (-1)) := hLs11.eqc (fun c c1 c2 => es16.2.1 c (by omega))
          have hDs16 : cwD 300 s16 (upd (upd (upd S (269 + 5 * (sn S 5)) (nI (numK T tn (nxK T tn tk)))) (269 + 5 * (sn S 5) + 1) (nI (numK T tn (nxK T tn (nxK T tn tk))))) (269 + 5 * (sn S 5) + 2) (-1)) := hDs11.eqc (fun c c1 => es16.2.1 c (by omega))
          refine g_pure 4 (i' := 38) (lv' := [some (vR 4), some (vI (nI (sn S 5))), some (vR (342 + sn S 5))]) (st' := [vI 5, vR 4, vI 2, vR (342 + sn S 5)]) rfl ?_
          by_cases h17 : tkP T tn (nxK T tn (nxK T tn (nxK T tn (nxK T tn tk)))) 4 0 (sn S 5)
          · refine gW_eq (st' := [vI (nI 5), vR 4, vI 2, vR (342 + sn S 5)]) rfl (by rw [(show (5 : Int32) = nI 5 from rfl)]) rfl ?_
            refine g_cV1E rfl (args := [vR 4, vI (nI 5)]) (rest := [vI 2, vR (342 + sn S 5)]) rfl rfl rfl (s_15a (d := d + 1) hTs16 ((((((hDs16.cnt (by decide))).trans (upd_ne (by omega))).trans (upd_ne (by omega))).trans (upd_ne (by omega))).trans (hI.c5)) (by omega) (by omega) (by assumption)) (fun s18 es18 => ?_)
            have hTs18 := es18.1
            have hFs18 := hFs16.cn es18.2
            have hLs18 : cwL 350 s18 (upd (upd (upd S (269 + 5 * (sn S 5)) (nI (numK T tn (nxK T tn tk)))) (269 + 5 * (sn S 5) + 1) (nI (numK T tn (nxK T tn (nxK T tn tk))))) (269 + 5 * (sn S 5) + 2) (-1)) := hLs16.eqc (fun c c1 c2 => es18.2.1 c (by omega))
            have hDs18 : cwD 300 s18 (upd (upd (upd S (269 + 5 * (sn S 5)) (nI (numK T tn (nxK T tn tk)))) (269 + 5 * (sn S 5) + 1) (nI (numK T tn (nxK T tn (nxK T tn tk))))) (269 + 5 * (sn S 5) + 2) (-1)) := hDs16.eqc (fun c c1 => es18.2.1 c (by omega))
            have t19 := (show tkP T tn (nxK T tn (nxK T tn (nxK T tn (nxK T tn tk)))) 4 0 (sn S 5) by assumption).2.2.2
            refine g_ast rfl (gA_307 (by omega)) (by decide) (show 2 = nI 2 from (show (2 : Int32) = nI 2 from rfl)) (by decide) ?_
            refine g_setv (fun s20 es20 => ?_)
            have hTs20 : CT T tn (nxK T tn (nxK T tn (nxK T tn (nxK T tn (nxK T tn tk))))) s20 := hTs18.eq (by rw [es20, mu_ne (by omega)]) (by rw [es20, mu_ne (by omega)])
            have hFs20 : FRc sg0 s20 := by rw [es20]; exact hFs18.mu (by omega)
            have hLs20 : cwL 350 s20 (upd (upd (upd (upd S (269 + 5 * (sn S 5)) (nI (numK T tn (nxK T tn tk)))) (269 + 5 * (sn S 5) + 1) (nI (numK T tn (nxK T tn (nxK T tn tk))))) (269 + 5 * (sn S 5) + 2) (-1)) (269 + 5 * (sn S 5) + 2) (nI (numK T tn (nxK T tn (nxK T tn (nxK T tn (nxK T tn tk))))))) := by rw [es20]; exact hLs18.land (by omega) (by unfold noLand; omega)
            have hDs20 : cwD 300 s20 (upd (upd (upd (upd S (269 + 5 * (sn S 5)) (nI (numK T tn (nxK T tn tk)))) (269 + 5 * (sn S 5) + 1) (nI (numK T tn (nxK T tn (nxK T tn tk))))) (269 + 5 * (sn S 5) + 2) (-1)) (269 + 5 * (sn S 5) + 2) (nI (numK T tn (nxK T tn (nxK T tn (nxK T tn (nxK T tn tk))))))) := by rw [es20]; exact hDs18.wtas (by omega) (by omega)
            refine g_pure 5 (i' := 45) (lv' := [some (vR 4), some (vI (nI (sn S 5))), some (vR (342 + sn S 5))]) (st' := [vI (-1), vI (nI (sn S 5)), vR 359]) rfl ?_
            refine g_ast rfl (g_A (a := 359) (kd := 1) (n := 8) rfl (by decide)) (by decide) (show nI (sn S 5) = nI (sn S 5) from (rfl : nI (sn S 5) = nI (sn S 5))) (by omega) ?_
            refine g_setv (fun s21 es21 => ?_)
            have hTs21 : CT T tn (nxK T tn (nxK T tn (nxK T tn (nxK T tn (nxK T tn tk))))) s21 := hTs20.eq (by rw [es21, mu_ne (by omega)]) (by rw [es21, mu_ne (by omega)])
            have hFs21 : FRc sg0 s21 := by rw [es21]; exact hFs20.mu (by omega)
            have hLs21 : cwL 350 s21 (upd (upd (upd (upd (upd S (269 + 5 * (sn S 5)) (nI (numK T tn (nxK T tn tk)))) (269 + 5 * (sn S 5) + 1) (nI (numK T tn (nxK T tn (nxK T tn tk))))) (269 + 5 * (sn S 5) + 2) (-1)) (269 + 5 * (sn S 5) + 2) (nI (numK T tn (nxK T tn (nxK T tn (nxK T tn (nxK T tn tk))))))) (269 + 5 * (sn S 5) + 3) (-1)) := by rw [es21]; exact hLs20.wdon (j := 0) (by decide) (by omega)
            have hDs21 : cwD 300 s21 (upd (upd (upd (upd (upd S (269 + 5 * (sn S 5)) (nI (numK T tn (nxK T tn tk)))) (269 + 5 * (sn S 5) + 1) (nI (numK T tn (nxK T tn (nxK T tn tk))))) (269 + 5 * (sn S 5) + 2) (-1)) (269 + 5 * (sn S 5) + 2) (nI (numK T tn (nxK T tn (nxK T tn (nxK T tn (nxK T tn tk))))))) (269 + 5 * (sn S 5) + 3) (-1)) := by rw [es21]; exact hDs20.life (by decide) (by unfold noLand; omega)
            refine g_pure 5 (i' := 51) (lv' := [some (vR 4), some (vI (nI (sn S 5))), some (vR (342 + sn S 5))]) (st' := [vI (-1), vI (nI (sn S 5)), vR 360]) rfl ?_
            refine g_ast rfl (g_A (a := 360) (kd := 1) (n := 8) rfl (by decide)) (by decide) (show nI (sn S 5) = nI (sn S 5) from (rfl : nI (sn S 5) = nI (sn S 5))) (by omega) ?_
            refine g_setv (fun s22 es22 => ?_)
            have hTs22 : CT T tn (nxK T tn (nxK T tn (nxK T tn (nxK T tn (nxK T tn tk))))) s22 := hTs21.eq (by rw [es22, mu_ne (by omega)]) (by rw [es22, mu_ne (by omega)])
            have hFs22 : FRc sg0 s22 := by rw [es22]; exact hFs21.mu (by omega)
            have hLs22 : cwL 350 s22 (upd (upd (upd (upd (upd (upd S (269 + 5 * (sn S 5)) (nI (numK T tn (nxK T tn tk)))) (269 + 5 * (sn S 5) + 1) (nI (numK T tn (nxK T tn (nxK T tn tk))))) (269 + 5 * (sn S 5) + 2) (-1)) (269 + 5 * (sn S 5) + 2) (nI (numK T tn (nxK T tn (nxK T tn (nxK T tn (nxK T tn tk))))))) (269 + 5 * (sn S 5) + 3) (-1)) (269 + 5 * (sn S 5) + 4) (-1)) := by rw [es22]; exact hLs21.wdon (j := 1) (by decide) (by omega)
            have hDs22 : cwD 300 s22 (upd (upd (upd (upd (upd (upd S (269 + 5 * (sn S 5)) (nI (numK T tn (nxK T tn tk)))) (269 + 5 * (sn S 5) + 1) (nI (numK T tn (nxK T tn (nxK T tn tk))))) (269 + 5 * (sn S 5) + 2) (-1)) (269 + 5 * (sn S 5) + 2) (nI (numK T tn (nxK T tn (nxK T tn (nxK T tn (nxK T tn tk))))))) (269 + 5 * (sn S 5) + 3) (-1)) (269 + 5 * (sn S 5) + 4) (-1)) := by rw [es22]; exact hDs21.life (by decide) (by unfold noLand; omega)
            refine g_pure 5 (i' := 57) (lv' := [some (vR 4), some (vI (nI (sn S 5))), some (vR (342 + sn S 5))]) (st' := [vI 5, vR 303, vI 5, vR 303]) rfl ?_
            refine g_ald rfl (g_A (a := 303) (kd := 1) (n := 6) rfl (by decide)) (by decide) (show 5 = nI 5 from (show (5 : Int32) = nI 5 from rfl)) (by decide) (show _ = S 5 from (((((((hDs22.cnt (by decide))).trans (upd_ne (by omega))).trans (upd_ne (by omega))).trans (upd_ne (by omega))).trans (upd_ne (by omega))).trans (upd_ne (by omega))).trans (upd_ne (by omega))) ?_
            refine g_pure 2 (i' := 60) (lv' := [some (vR 4), some (vI (nI (sn S 5))), some (vR (342 + sn S 5))]) (st' := [vI (S 5 + 1), vI 5, vR 303]) rfl ?_
            refine gW_eq (lv' := [some (vR 4), some (vI (nI (sn S 5))), some (vR (342 + sn S 5))]) (st' := [vI (nI (sn S 5 + 1)), vI 5, vR 303]) rfl (by rw [(show (S 5 + 1) = nI (sn S 5 + 1) from ((g_add (hI.c5) (show (1 : Int32) = nI 1 from rfl))).trans (congrArg nI (by omega)))]) rfl ?_
            refine g_ast rfl (g_A (a := 303) (kd := 1) (n := 6) rfl (by decide)) (by decide) (show 5 = nI 5 from (show (5 : Int32) = nI 5 from rfl)) (by decide) ?_
            refine g_setv (fun s23 es23 => ?_)
            have hTs23 : CT T tn (nxK T tn (nxK T tn (nxK T tn (nxK T tn (nxK T tn tk))))) s23 := hTs22.eq (by rw [es23, mu_ne (by omega)]) (by rw [es23, mu_ne (by omega)])
            have hFs23 : FRc sg0 s23 := by rw [es23]; exact hFs22.mu (by omega)
            have hLs23 : cwL 350 s23 (upd (upd (upd (upd (upd (upd (upd S (269 + 5 * (sn S 5)) (nI (numK T tn (nxK T tn tk)))) (269 + 5 * (sn S 5) + 1) (nI (numK T tn (nxK T tn (nxK T tn tk))))) (269 + 5 * (sn S 5) + 2) (-1)) (269 + 5 * (sn S 5) + 2) (nI (numK T tn (nxK T tn (nxK T tn (nxK T tn (nxK T tn tk))))))) (269 + 5 * (sn S 5) + 3) (-1)) (269 + 5 * (sn S 5) + 4) (-1)) 5 (nI (sn S 5 + 1))) := by rw [es23]; exact hLs22.land (by omega) (by unfold noLand; omega)
            have hDs23 : cwD 300 s23 (upd (upd (upd (upd (upd (upd (upd S (269 + 5 * (sn S 5)) (nI (numK T tn (nxK T tn tk)))) (269 + 5 * (sn S 5) + 1) (nI (numK T tn (nxK T tn (nxK T tn tk))))) (269 + 5 * (sn S 5) + 2) (-1)) (269 + 5 * (sn S 5) + 2) (nI (numK T tn (nxK T tn (nxK T tn (nxK T tn (nxK T tn tk))))))) (269 + 5 * (sn S 5) + 3) (-1)) (269 + 5 * (sn S 5) + 4) (-1)) 5 (nI (sn S 5 + 1))) := by rw [es23]; exact hDs22.wcnt (by decide)
            refine g_vret rfl ?_
            exact o2 h1 s2 es2 h3 s4 es4 s6 es6 h7 s8 es8 s10 es10 s11 es11 h12 s16 es16 h17 s18 es18 s20 es20 s21 es21 s22 es22 s23 es23 hTs23 hFs23 hLs23 hDs23
          · refine gW_eq (st' := [vI (nI 5), vR 4, vI 2, vR (342 + sn S 5)]) rfl (by rw [(show (5 : Int32) = nI 5 from rfl)]) rfl ?_
            refine g_cVxE rfl (args := [vR 4, vI (nI 5)]) (rest := [vI 2, vR (342 + sn S 5)]) rfl rfl rfl (s_15b (d := d + 1) hTs16 ((((((hDs16.cnt (by decide))).trans (upd_ne (by omega))).trans (upd_ne (by omega))).trans (upd_ne (by omega))).trans (hI.c5)) (by omega) (by omega) (by assumption)) (fun s24 es24 => ?_)
            exact o3 h1 s2 es2 h3 s4 es4 s6 es6 h7 s8 es8 s10 es10 s11 es11 h12 s16 es16 h17 s24 es24 hTs16 hFs16 hLs16 hDs16
      · refine g_cVxE rfl (args := [vR 4]) (rest := [vI 1, vR (342 + sn S 5)]) rfl rfl rfl (s_13b (d := d + 1) hTs6 (((hDs6.f5).trans (upd_ne (by omega))).trans (hI.c9)) (by omega) (by assumption)) (fun s25 es25 => ?_)
        exact o4 h1 s2 es2 h3 s4 es4 s6 es6 h7 s25 es25 hTs6 hFs6 hLs6 hDs6
    · refine gW_eq (st' := [vI (nI 0), vR 4, vI 0, vR (342 + sn S 5)]) rfl (by rw [(show (0 : Int32) = nI 0 from rfl)]) rfl ?_
      refine g_cVxE rfl (args := [vR 4, vI (nI 0)]) (rest := [vI 0, vR (342 + sn S 5)]) rfl rfl rfl (s_15b (d := d + 1) hTs2 (((hDs2.cnt (by decide))).trans (hI.c0)) (by omega) (by omega) (by assumption)) (fun s26 es26 => ?_)
      exact o5 h1 s2 es2 h3 s26 es26 hTs2 hFs2 hLs2 hDs2
  · refine gW_eq (st' := [vI (nI 8), vI (nI 5), vR 4]) rfl (by rw [(show (5 : Int32) = nI 5 from rfl), (show (8 : Int32) = nI 8 from rfl)]) rfl ?_
    refine g_cVxE rfl (args := [vR 4, vI (nI 5), vI (nI 8)]) (rest := []) rfl rfl rfl (s_11b (d := d + 2) hT (((hD.cnt (by decide))).trans (hI.c5)) (by omega) (by omega) (by omega) (by assumption)) (fun s27 es27 => ?_)
    exact o6 h1 s27 es27 hT hF hL hD

noncomputable def prTas (T : Nat → Int32) (n k : Nat) (S : Nat → Int32) : PRs := (sel (sn S 5 < 8) (sel (tkP T n (nxK T n k) 4 0 (sn S 0)) (sel (tkP T n (nxK T n (nxK T n k)) 4 0 (sn S 9)) (sel (¬ (dcN (isW T n (nxK T n (nxK T n (nxK T n k))) (am_SL 11)) = true)) (.inr (nxK T n (nxK T n (nxK T n k)), (upd (upd (upd (upd (upd (upd S (269 + 5 * (sn S 5)) (nI (numK T n (nxK T n k)))) (269 + 5 * (sn S 5) + 1) (nI (numK T n (nxK T n (nxK T n k))))) (269 + 5 * (sn S 5) + 2) (-1)) (269 + 5 * (sn S 5) + 3) (-1)) (269 + 5 * (sn S 5) + 4) (-1)) 5 (nI (sn S 5 + 1))))) (sel (tkP T n (nxK T n (nxK T n (nxK T n (nxK T n k)))) 4 0 (sn S 5)) (.inr (nxK T n (nxK T n (nxK T n (nxK T n (nxK T n k)))), (upd (upd (upd (upd (upd (upd (upd S (269 + 5 * (sn S 5)) (nI (numK T n (nxK T n k)))) (269 + 5 * (sn S 5) + 1) (nI (numK T n (nxK T n (nxK T n k))))) (269 + 5 * (sn S 5) + 2) (-1)) (269 + 5 * (sn S 5) + 2) (nI (numK T n (nxK T n (nxK T n (nxK T n (nxK T n k))))))) (269 + 5 * (sn S 5) + 3) (-1)) (269 + 5 * (sn S 5) + 4) (-1)) 5 (nI (sn S 5 + 1))))) (.inl (spK T n (nxK T n (nxK T n (nxK T n (nxK T n k)))))))) (.inl (spK T n (nxK T n (nxK T n k))))) (.inl (spK T n (nxK T n k)))) (.inl (spK T n k)))

theorem s_20 {X : Nat × (Nat → Int32)} {d : Nat} {p : Nat → Nat} {sg : Mg} {B : Nat} {S : Nat → Int32} (hI : Inv B S) (hL : cwL 350 sg S) (hD : cwD 300 sg S) {T : Nat → Int32} {tn tk : Nat} (hT : CT T tn tk sg) : gF X (d + 5) 20 [vR 4] p sg (lnC (prTas T tn tk S) T tn sg p) := by
  refine g_in (cd := k_20) (nL := 3) (rc := 2) rfl (g_A (a := 4) (kd := 0) (n := 1) rfl (by decide)) (g_c1 rfl) (b_20_0 hI hL hD hT (FRc.rf sg) ?_ ?_ ?_ ?_ ?_ ?_)
  · intro h0 s1 e1 h2 s3 e3 s4 e4 h5 s6 e6 s7 e7 s8 e8 h9 s10 e10 s11 e11 s12 e12 cT cF cL cD
    unfold prTas
    rw [sel_t h0, sel_t h2, sel_t h5, sel_t h9]
    exact ⟨_, ⟨cF, cT, cL, cD⟩, rfl⟩
  · intro h0 s1 e1 h2 s3 e3 s4 e4 h5 s6 e6 s7 e7 s8 e8 h9 s10 e10 h11 s12 e12 s13 e13 s14 e14 s15 e15 s16 e16 cT cF cL cD
    unfold prTas
    rw [sel_t h0, sel_t h2, sel_t h5, sel_f (fun n9 => n9 h9), sel_t h11]
    exact ⟨_, ⟨cF, cT, cL, cD⟩, rfl⟩
  · intro h0 s1 e1 h2 s3 e3 s4 e4 h5 s6 e6 s7 e7 s8 e8 h9 s10 e10 h11 s12 e12 cT cF cL cD
    unfold prTas
    rw [sel_t h0, sel_t h2, sel_t h5, sel_f (fun n9 => n9 h9), sel_f h11]
    exact LF.of cF e12
  · intro h0 s1 e1 h2 s3 e3 s4 e4 h5 s6 e6 cT cF cL cD
    unfold prTas
    rw [sel_t h0, sel_t h2, sel_f h5]
    exact LF.of cF e6
  · intro h0 s1 e1 h2 s3 e3 cT cF cL cD
    unfold prTas
    rw [sel_t h0, sel_f h2]
    exact LF.of cF e3
  · intro h0 s1 e1 cT cF cL cD
    unfold prTas
    rw [sel_f h0]
    exact LF.of cF e1

theorem b_22_0 {X : Nat × (Nat → Int32)} {d : Nat} {p : Nat → Nat} {sg : Mg} {Q : am_R → Prop} {B : Nat} {S : Nat → Int32} (hI : Inv B S) (hL : cwL 350 sg S) (hD : cwD 300 sg S) {T : Nat → Int32} {tn tk : Nat} (hT : CT T tn tk sg) {sg0 : Mg} (hF : FRc sg0 sg)
    (o1 : (sn S 0 ≤ 0) → ∀ s2 : Mg, (CT T tn (nxK T tn tk) s2 ∧ CN sg s2) → (tkP T tn (nxK T tn tk) 4 3 17) → ∀ s4 : Mg, (CT T tn (nxK T tn (nxK T tn tk)) s4 ∧ CN s2 s4) → ∀ s6 : Mg, s6 = mu s4 302 5 (nI (numK T tn (nxK T tn tk))) → ∀ s7 : Mg, s7 = mu s6 302 6 (S 10 &&& ((1 <<< (nI (numK T tn (nxK T tn tk)) &&& 31)) - 1)) → CT T tn (nxK T tn (nxK T tn tk)) s7 → FRc sg0 s7 → cwL 350 s7 (upd (upd S 9 (nI (numK T tn (nxK T tn tk)))) 10 (S 10 &&& ((1 <<< (nI (numK T tn (nxK T tn tk)) &&& 31)) - 1))) → cwD 300 s7 (upd (upd S 9 (nI (numK T tn (nxK T tn tk)))) 10 (S 10 &&& ((1 <<< (nI (numK T tn (nxK T tn tk)) &&& 31)) - 1))) → Q (gR0 p s7))
    (o2 : (sn S 0 ≤ 0) → ∀ s2 : Mg, (CT T tn (nxK T tn tk) s2 ∧ CN sg s2) → (¬ tkP T tn (nxK T tn tk) 4 3 17) → ∀ s8 : Mg, (CF (spK T tn (nxK T tn tk)) s2 s8) → CT T tn (nxK T tn tk) s2 → FRc sg0 s2 → cwL 350 s2 S → cwD 300 s2 S → Q (gRx p s8 0))
    (o3 : (¬ (sn S 0 ≤ 0)) → ∀ s9 : Mg, (CF (spK T tn tk) sg s9) → CT T tn tk sg → FRc sg0 sg → cwL 350 sg S → cwD 300 sg S → Q (gRx p s9 0)) :
    gW X (d + 4) k_22 0 [some (vR 4)] [] p sg Q := by
  have b0 := hI.b0; have b1 := hI.b1; have b2 := hI.b2; have b3 := hI.b3; have b4 := hI.b4; have b5 := hI.b5; have b6 := hI.b6; have b7 := hI.b7; have b8 := hI.b8; have b9 := hI.b9; have b14 := hI.b14
  refine g_pure 4 (i' := 4) (lv' := [some (vR 4)]) (st' := [vI 0, vR 303]) rfl ?_
  refine g_ald rfl (g_A (a := 303) (kd := 1) (n := 6) rfl (by decide)) (by decide) (show 0 = nI 0 from (show (0 : Int32) = nI 0 from rfl)) (by decide) (show _ = S 0 from (hD.cnt (by decide))) ?_
  refine g_if1 (i' := 12) (P := sn S 0 ≤ 0) rfl rfl (g_leN (show S 0 = nI (sn S 0) from (hI.c0)) (show 0 = nI 0 from (show (0 : Int32) = nI 0 from rfl)) (by omega) (by omega)) (fun h1 => ?_) (fun h1 => ?_)
  · refine g_pure 2 (i' := 14) (lv' := [some (vR 4)]) (st' := [vR 1]) rfl ?_
    refine g_cV0E rfl (args := [vR 1]) (rest := []) rfl rfl rfl (s_70 (d := d + 3) hT) (fun s2 es2 => ?_)
    have hTs2 := es2.1
    have hFs2 := hF.cn es2.2
    have hLs2 : cwL 350 s2 S := hL.eqc (fun c c1 c2 => es2.2.1 c (by omega))
    have hDs2 : cwD 300 s2 S := hD.eqc (fun c c1 => es2.2.1 c (by omega))
    refine g_pure 7 (i' := 22) (lv' := [some (vR 4)]) (st' := [vI 16, vI 3, vI 4, vR 1, vR 302]) rfl ?_
    by_cases h3 : tkP T tn (nxK T tn tk) 4 3 17
    · refine gW_eq (st' := [vI 16, vI (nI 3), vI (nI 4), vR 1, vR 302]) rfl (by rw [(show (4 : Int32) = nI 4 from rfl), (show (3 : Int32) = nI 3 from rfl)]) rfl ?_
      refine g_cV1E rfl (args := [vR 1, vI (nI 4), vI (nI 3), vI 16]) (rest := [vR 302]) rfl rfl rfl (s_77a (m := 17) (d := d + 2) hTs2 (by omega) (by omega) (by omega) (show (16 : Int32) = nI 17 - 1 from by decide) (by assumption)) (fun s4 es4 => ?_)
      have hTs4 := es4.1
      have hFs4 := hFs2.cn es4.2
      have hLs4 : cwL 350 s4 S := hLs2.eqc (fun c c1 c2 => es4.2.1 c (by omega))
      have hDs4 : cwD 300 s4 S := hDs2.eqc (fun c c1 => es4.2.1 c (by omega))
      have t5 := (show tkP T tn (nxK T tn tk) 4 3 17 by assumption).2.2
      refine g_putI rfl (g_A (a := 302) (kd := 0) (n := 3) rfl (by decide)) ?_
      refine g_setv (fun s6 es6 => ?_)
      have hTs6 : CT T tn (nxK T tn (nxK T tn tk)) s6 := hTs4.eq (by rw [es6, mu_ne (by omega)]) (by rw [es6, mu_ne (by omega)])
      have hFs6 : FRc sg0 s6 := by rw [es6]; exact hFs4.mu (by omega)
      have hLs6 : cwL 350 s6 (upd S 9 (nI (numK T tn (nxK T tn tk)))) := by rw [es6]; exact hLs4.land (by omega) (by unfold noLand; omega)
      have hDs6 : cwD 300 s6 (upd S 9 (nI (numK T tn (nxK T tn tk)))) := by rw [es6]; exact hDs4.wfl (by decide)
      refine g_pure 3 (i' := 27) (lv' := [some (vR 4)]) (st' := [vR 302, vR 302]) rfl ?_
      refine g_getI rfl (g_A (a := 302) (kd := 0) (n := 3) rfl (by decide)) (show _ = S 10 from (hDs6.f6).trans (upd_ne (by omega))) ?_
      refine g_pure 3 (i' := 31) (lv' := [some (vR 4)]) (st' := [vR 302, vI 1, vI (S 10), vR 302]) rfl ?_
      refine g_getI rfl (g_A (a := 302) (kd := 0) (n := 3) rfl (by decide)) (show _ = nI (numK T tn (nxK T tn tk)) from (hDs6.f5).trans upd_self) ?_
      refine g_pure 4 (i' := 36) (lv' := [some (vR 4)]) (st' := [vI (S 10 &&& ((1 <<< (nI (numK T tn (nxK T tn tk)) &&& 31)) - 1)), vR 302]) rfl ?_
      refine g_putI rfl (g_A (a := 302) (kd := 0) (n := 3) rfl (by decide)) ?_
      refine g_setv (fun s7 es7 => ?_)
      have hTs7 : CT T tn (nxK T tn (nxK T tn tk)) s7 := hTs6.eq (by rw [es7, mu_ne (by omega)]) (by rw [es7, mu_ne (by omega)])
      have hFs7 : FRc sg0 s7 := by rw [es7]; exact hFs6.mu (by omega)
      have hLs7 : cwL 350 s7 (upd (upd S 9 (nI (numK T tn (nxK T tn tk)))) 10 (S 10 &&& ((1 <<< (nI (numK T tn (nxK T tn tk)) &&& 31)) - 1))) := by rw [es7]; exact hLs6.land (by omega) (by unfold noLand; omega)
      have hDs7 : cwD 300 s7 (upd (upd S 9 (nI (numK T tn (nxK T tn tk)))) 10 (S 10 &&& ((1 <<< (nI (numK T tn (nxK T tn tk)) &&& 31)) - 1))) := by rw [es7]; exact hDs6.wfl (by decide)
      refine g_vret rfl ?_
      exact o1 h1 s2 es2 h3 s4 es4 s6 es6 s7 es7 hTs7 hFs7 hLs7 hDs7
    · refine gW_eq (st' := [vI 16, vI (nI 3), vI (nI 4), vR 1, vR 302]) rfl (by rw [(show (4 : Int32) = nI 4 from rfl), (show (3 : Int32) = nI 3 from rfl)]) rfl ?_
      refine g_cVxE rfl (args := [vR 1, vI (nI 4), vI (nI 3), vI 16]) (rest := [vR 302]) rfl rfl rfl (s_77b (m := 17) (d := d + 2) hTs2 (by omega) (by omega) (by omega) (show (16 : Int32) = nI 17 - 1 from by decide) (by assumption)) (fun s8 es8 => ?_)
      exact o2 h1 s2 es2 h3 s8 es8 hTs2 hFs2 hLs2 hDs2
  · refine g_pure 4 (i' := 10) (lv' := [some (vR 4)]) (st' := [vR 1, vR 1]) rfl ?_
    refine g_cV1 rfl (args := [vR 1]) (rest := [vR 1]) rfl rfl rfl (s_76 (d := d + 3) hT) ?_
    refine g_cVxE rfl (args := [vR 1, vI (nI (spK T tn tk))]) (rest := []) rfl rfl rfl (s_75 (d := d + 3) ) (fun s9 es9 => ?_)
    exact o3 h1 s9 es9 hT hF hL hD

noncomputable def prDay (T : Nat → Int32) (n k : Nat) (S : Nat → Int32) : PRs := (sel (sn S 0 ≤ 0) (sel (tkP T n (nxK T n k) 4 3 17) (.inr (nxK T n (nxK T n k), (upd (upd S 9 (nI (numK T n (nxK T n k)))) 10 (S 10 &&& ((1 <<< (nI (numK T n (nxK T n k)) &&& 31)) - 1))))) (.inl (spK T n (nxK T n k)))) (.inl (spK T n k)))

theorem s_22 {X : Nat × (Nat → Int32)} {d : Nat} {p : Nat → Nat} {sg : Mg} {B : Nat} {S : Nat → Int32} (hI : Inv B S) (hL : cwL 350 sg S) (hD : cwD 300 sg S) {T : Nat → Int32} {tn tk : Nat} (hT : CT T tn tk sg) : gF X (d + 5) 22 [vR 4] p sg (lnC (prDay T tn tk S) T tn sg p) := by
  refine g_in (cd := k_22) (nL := 1) (rc := 2) rfl (g_A (a := 4) (kd := 0) (n := 1) rfl (by decide)) (g_c1 rfl) (b_22_0 hI hL hD hT (FRc.rf sg) ?_ ?_ ?_)
  · intro h0 s1 e1 h2 s3 e3 s4 e4 s5 e5 cT cF cL cD
    unfold prDay
    rw [sel_t h0, sel_t h2]
    exact ⟨_, ⟨cF, cT, cL, cD⟩, rfl⟩
  · intro h0 s1 e1 h2 s3 e3 cT cF cL cD
    unfold prDay
    rw [sel_t h0, sel_f h2]
    exact LF.of cF e3
  · intro h0 s1 e1 cT cF cL cD
    unfold prDay
    rw [sel_f h0]
    exact LF.of cF e1
