/-! GO (made by wip/whole/gen73.py) -/
abbrev goOK (S : Nat → Int32) (k r : Nat) : Prop := ¬ S (113 + 6 * k) = -1 ∧ (sn S (177 + 3 * r) = sn S (113 + 6 * k) ∨ sn S (177 + 3 * r + 1) = sn S (113 + 6 * k)) ∧ ¬ brd S (scf S k (sn S (113 + 6 * k)) (sn S 8)) 0 = true
def goT (S : Nat → Int32) (k r : Nat) : Nat → Int32 := goS S k (-1) (nI (otN S r (sn S (113 + 6 * k)))) (S 8 + S (177 + 3 * r + 2))
def goR (S : Nat → Int32) (x y : Int32) : Nat × Int32 := if okx x (sn S 1) then (if okx y (sn S 3) then (if goOK S x.toNatClampNeg y.toNatClampNeg then (0, S 8 + S (177 + 3 * y.toNatClampNeg + 2)) else (2, 0)) else (1, 0)) else (1, 0)
theorem goT_inv {B : Nat} {A : AS} (hI : RI B A) {k r : Nat} (hk : k < sn A.S 1) (hr : r < sn A.S 3) (hw : ¬ A.S (113 + 6 * k) = -1) : Inv B (goT A.S k r) ∧ Str (goT A.S k r) ∧ kpL A.S (goT A.S k r) := by
  have b1 := hI.1.b1; have b8 := hI.1.b8; have b3 := hI.1.b3
  have hl := (hI.1.roa hr).2.2
  have e : A.S 8 + A.S (177 + 3 * r + 2) = nI (sn A.S 8 + sn A.S (177 + 3 * r + 2)) := by rw [hI.1.c8, hl.1.1, nI_add]
  unfold goT
  rw [e]
  refine ⟨hI.1.goI hk (Or.inr ⟨rfl, _, _, otN_lt hI.1 hr _, by omega, by have := hl.1.2; omega, rfl, rfl⟩), fun k' hk' hw' => ?_, fun i hi => goS_ne (by unfold lifeN noLand at hi; omega)⟩
  rw [sn_eq (goS_ne (by omega))] at hk'
  rw [sn_eq (S := A.S) (i := 8) (goS_ne (by omega))]
  by_cases h : k' = k
  · subst h
    have h2 := hl.1.2
    have := hl.2.1
    rw [show sn (goS A.S k' (-1) (nI (otN A.S r (sn A.S (113 + 6 * k')))) (nI (sn A.S 8 + sn A.S (177 + 3 * r + 2)))) (113 + 6 * k' + 2) = sn A.S 8 + sn A.S (177 + 3 * r + 2) from by unfold sn; rw [goS_2, nI_clamp (by unfold sn at *; omega)]]
    omega
  · rw [goS_ne (by omega)] at hw'
    rw [sn_eq (S := A.S) (i := 113 + 6 * k' + 2) (goS_ne (by omega))]
    exact hI.2.1 k' hk' hw'

theorem b_152_0 {X : Nat × (Nat → Int32)} {d : Nat} {p : Nat → Nat} {sg : Mg} {Q : am_R → Prop} {B : Nat} {S : Nat → Int32} (hI : Inv B S) (hL : cwL 250 sg S) (hD : cwD 200 sg S) {x : Int32} {y : Int32}
    (o1 : ∀ n2 : Nat, x = nI n2 → n2 < sn S 1 → ∀ n4 : Nat, y = nI n4 → n4 < sn S 3 → gW X (d + 6) k_152 8 [some (vR 0), some (vI (nI n2)), some (vI (nI n4)), none, none, none] [] p sg Q)
    (o2 : ∀ n2 : Nat, x = nI n2 → n2 < sn S 1 → (¬ okx y (sn S 3)) → Q (gRx p sg 2))
    (o3 : (¬ okx x (sn S 1)) → Q (gRx p sg 2)) :
    gW X (d + 6) k_152 0 [some (vR 0), some (vI x), some (vI y), none, none, none] [] p sg Q := by
  have b0 := hI.b0; have b1 := hI.b1; have b2 := hI.b2; have b3 := hI.b3; have b4 := hI.b4; have b5 := hI.b5; have b6 := hI.b6; have b7 := hI.b7; have b8 := hI.b8; have b9 := hI.b9; have b14 := hI.b14
  refine g_pure 3 (i' := 3) (lv' := [some (vR 0), some (vI x), some (vI y), none, none, none]) (st' := [vI x, vI 1, vR 0]) rfl ?_
  by_cases h1 : okx x (sn S 1)
  · obtain ⟨n2, ln2, en2⟩ := okx_of h1
    subst en2
    refine gW_eq (st' := [vI (nI n2), vI (nI 1), vR 0]) rfl (by rw [(show (1 : Int32) = nI 1 from rfl)]) rfl ?_
    refine g_cV0 rfl (args := [vR 0, vI (nI 1), vI (nI n2)]) (rest := []) rfl rfl rfl (s_140o (d := d + 4) hI hL hD (by omega) ((okx_nI (by omega)).mpr (by omega))) ?_
    refine g_pure 3 (i' := 7) (lv' := [some (vR 0), some (vI (nI n2)), some (vI y), none, none, none]) (st' := [vI y, vI 3, vR 0]) rfl ?_
    by_cases h3 : okx y (sn S 3)
    · obtain ⟨n4, ln4, en4⟩ := okx_of h3
      subst en4
      refine gW_eq (st' := [vI (nI n4), vI (nI 3), vR 0]) rfl (by rw [(show (3 : Int32) = nI 3 from rfl)]) rfl ?_
      refine g_cV0 rfl (args := [vR 0, vI (nI 3), vI (nI n4)]) (rest := []) rfl rfl rfl (s_140o (d := d + 4) hI hL hD (by omega) ((okx_nI (by omega)).mpr (by omega))) ?_
      exact o1 n2 rfl ln2 n4 rfl ln4
    · refine gW_eq (st' := [vI y, vI (nI 3), vR 0]) rfl (by rw [(show (3 : Int32) = nI 3 from rfl)]) rfl ?_
      refine g_cVx rfl (args := [vR 0, vI (nI 3), vI y]) (rest := []) rfl rfl rfl (s_140x (d := d + 4) hI hL hD (by omega) (by assumption)) ?_
      exact o2 n2 rfl ln2 h3
  · refine gW_eq (st' := [vI x, vI (nI 1), vR 0]) rfl (by rw [(show (1 : Int32) = nI 1 from rfl)]) rfl ?_
    refine g_cVx rfl (args := [vR 0, vI (nI 1), vI x]) (rest := []) rfl rfl rfl (s_140x (d := d + 4) hI hL hD (by omega) (by assumption)) ?_
    exact o3 h1

theorem b_152_v {X : Nat × (Nat → Int32)} {d : Nat} {p : Nat → Nat} {sg : Mg} {Q : am_R → Prop} {B : Nat} {S : Nat → Int32} (hI : Inv B S) (hL : cwL 250 sg S) (hD : cwD 200 sg S) {v : Nat} (hW : LW S sg) {k : Nat} {r : Nat} (u_k : k ≤ 7) (u_r : r ≤ 11) (q1 : k < sn S 1) (q2 : r < sn S 3) (q3 : v < sn S 0) (hv : S (113 + 6 * k) = nI v)
    (o1 : (otP S r v) → (nI (otN S r v) = (-1)) → Q (gRx p sg 4))
    (o2 : (otP S r v) → (¬ (nI (otN S r v) = (-1))) → ∀ s4 : Mg, (∀ c, c ≠ 201 → c ≠ 213 → s4 c = sg c) → (¬ (brd S (scf S k v (sn S 8)) 0 = true)) → gW X (d + 6) k_152 40 [some (vR 0), some (vI (nI k)), some (vI (nI r)), some (vR 250), some (vI (nI v)), some (vI (nI (otN S r v)))] [] p s4 Q)
    (o3 : (otP S r v) → (¬ (nI (otN S r v) = (-1))) → ∀ s4 : Mg, (∀ c, c ≠ 201 → c ≠ 213 → s4 c = sg c) → ((brd S (scf S k v (sn S 8)) 0 = true)) → Q (gRx p s4 4))
    (o4 : (¬ otP S r v) → Q (gRx p sg 4)) :
    gW X (d + 6) k_152 8 [some (vR 0), some (vI (nI k)), some (vI (nI r)), none, none, none] [] p sg Q := by
  have b0 := hI.b0; have b1 := hI.b1; have b2 := hI.b2; have b3 := hI.b3; have b4 := hI.b4; have b5 := hI.b5; have b6 := hI.b6; have b7 := hI.b7; have b8 := hI.b8; have b9 := hI.b9; have b14 := hI.b14
  refine g_pure 7 (i' := 15) (lv' := [some (vR 0), some (vI (nI k)), some (vI (nI r)), some (vR 250), none, none]) (st' := [vI (nI k), vR 252]) rfl ?_
  refine g_ald rfl (g_A (a := 252) (kd := 1) (n := 8) rfl (by decide)) (by decide) (show nI k = nI k from (rfl : nI k = nI k)) (by omega) (show _ = nI v from ((hL.per 0 (by decide) (by omega))).trans hv) ?_
  refine g_pure 6 (i' := 22) (lv' := [some (vR 0), some (vI (nI k)), some (vI (nI r)), some (vR 250), some (vI (nI v)), none]) (st' := [vI (nI v), vI (nI r), vR 202]) rfl ?_
  by_cases h1 : otP S r v
  · refine g_cV1 rfl (args := [vR 202, vI (nI r), vI (nI v)]) (rest := []) rfl rfl rfl (s_39o (d := d + 4) hI hL hD (by omega) (by omega) (by omega) (by assumption)) ?_
    have t2 := otN_lt hI (r := r) (by omega) v
    refine g_pure 3 (i' := 26) (lv' := [some (vR 0), some (vI (nI k)), some (vI (nI r)), some (vR 250), some (vI (nI v)), some (vI (nI (otN S r v)))]) (st' := [vI (-1), vI (nI (otN S r v))]) rfl ?_
    refine g_if2 (i' := 35) (P := nI (otN S r v) = (-1)) rfl rfl Iff.rfl (fun h3 => ?_) (fun h3 => ?_)
    · refine g_thr' rfl rfl ?_
      exact o1 h1 h3
    · refine g_pure 5 (i' := 32) (lv' := [some (vR 0), some (vI (nI k)), some (vI (nI r)), some (vR 250), some (vI (nI v)), some (vI (nI (otN S r v)))]) (st' := [vR 250, vI (nI v), vI (nI k), vR 200]) rfl ?_
      refine g_getI rfl (g_A (a := 250) (kd := 0) (n := 6) rfl (by decide)) (show _ = S 8 from hL.f12) ?_
      refine gW_eq (st' := [vI (nI (sn S 8)), vI (nI v), vI (nI k), vR 200]) rfl (by rw [(show S 8 = nI (sn S 8) from (hI.c8))]) rfl ?_
      refine g_cV1E rfl (args := [vR 200, vI (nI k), vI (nI v), vI (nI (sn S 8))]) (rest := []) rfl rfl rfl (s_113 (d := d + 1) hI hL hD hW (by omega) (by omega) (by omega)) (fun s4 es4 => ?_)
      have hLs4 : cwL 250 s4 S := (hL).eqc (fun c h1 h2 => es4 c (by omega) (by omega))
      have hDs4 : cwD 200 s4 S := (hD).eqc (fun c h1 => es4 c (by omega) (by omega))
      refine g_if1 (i' := 40) (P := ¬ (brd S (scf S k v (sn S 8)) 0 = true)) rfl rfl g_eqB (fun h5 => ?_) (fun h5 => ?_)
      · exact o2 h1 h3 s4 es4 h5
      · have h5 := Classical.not_not.mp h5
        refine g_thr' rfl rfl ?_
        exact o3 h1 h3 s4 es4 h5
  · refine g_cV1 rfl (args := [vR 202, vI (nI r), vI (nI v)]) (rest := []) rfl rfl rfl (s_39x (d := d + 4) hI hL hD (by omega) (by omega) (by omega) (by assumption)) ?_
    refine g_pure 3 (i' := 26) (lv' := [some (vR 0), some (vI (nI k)), some (vI (nI r)), some (vR 250), some (vI (nI v)), some (vI (-1))]) (st' := [vI (-1), vI (-1)]) rfl ?_
    refine g_if2 (i' := 35) (P := ((-1) : Int32) = (-1)) rfl rfl Iff.rfl (fun _ => ?_) (fun h6 => absurd (by decide) h6)
    refine g_thr' rfl rfl ?_
    exact o4 h1

theorem b_39_m {X : Nat × (Nat → Int32)} {d : Nat} {p : Nat → Nat} {sg : Mg} {Q : am_R → Prop} {B : Nat} {S : Nat → Int32} (hI : Inv B S) (hL : cwL 250 sg S) (hD : cwD 200 sg S) {r : Nat} {v : Int32} (u_r : r ≤ 11) (q1 : r < sn S 3)
    (o1 : (¬ S (177 + 3 * r) = v) → (¬ S (177 + 3 * r + 1) = v) → Q (gRv p sg (-1)))
    (o2 : (¬ S (177 + 3 * r) = v) → (S (177 + 3 * r + 1) = v) → Q (gRv p sg (S (177 + 3 * r))))
    (o3 : (S (177 + 3 * r) = v) → Q (gRv p sg (S (177 + 3 * r + 1)))) :
    gW X (d + 1) k_39 0 [some (vR 202), some (vI (nI r)), some (vI v)] [] p sg Q := by
  have b0 := hI.b0; have b1 := hI.b1; have b2 := hI.b2; have b3 := hI.b3; have b4 := hI.b4; have b5 := hI.b5; have b6 := hI.b6; have b7 := hI.b7; have b8 := hI.b8; have b9 := hI.b9; have b14 := hI.b14
  refine g_pure 3 (i' := 3) (lv' := [some (vR 202), some (vI (nI r)), some (vI v)]) (st' := [vI (nI r), vR 205]) rfl ?_
  refine g_aald rfl (Or.inl rfl) (g_A (a := 205) (kd := 5) (n := 12) rfl (by decide)) (by decide) (show nI r = nI r from (rfl : nI r = nI r)) (by omega) (gR_205 (by omega)) ?_
  refine g_pure 1 (i' := 5) (lv' := [some (vR 202), some (vI (nI r)), some (vI v)]) (st' := [vI 0, vR (222 + r)]) rfl ?_
  refine g_ald rfl (gA_205 (by omega)) (by decide) (show 0 = nI 0 from (show (0 : Int32) = nI 0 from rfl)) (by decide) (show _ = S (177 + 3 * r) from (hD.roa 0 (by omega) (by decide))) ?_
  refine g_pure 1 (i' := 7) (lv' := [some (vR 202), some (vI (nI r)), some (vI v)]) (st' := [vI v, vI (S (177 + 3 * r))]) rfl ?_
  refine g_if2 (i' := 15) (P := ¬ S (177 + 3 * r) = v) rfl rfl Iff.rfl (fun h1 => ?_) (fun h1 => ?_)
  · refine g_pure 3 (i' := 18) (lv' := [some (vR 202), some (vI (nI r)), some (vI v)]) (st' := [vI (nI r), vR 205]) rfl ?_
    refine g_aald rfl (Or.inl rfl) (g_A (a := 205) (kd := 5) (n := 12) rfl (by decide)) (by decide) (show nI r = nI r from (rfl : nI r = nI r)) (by omega) (gR_205 (by omega)) ?_
    refine g_pure 1 (i' := 20) (lv' := [some (vR 202), some (vI (nI r)), some (vI v)]) (st' := [vI 1, vR (222 + r)]) rfl ?_
    refine g_ald rfl (gA_205 (by omega)) (by decide) (show 1 = nI 1 from (show (1 : Int32) = nI 1 from rfl)) (by decide) (show _ = S (177 + 3 * r + 1) from (hD.roa 1 (by omega) (by decide))) ?_
    refine g_pure 1 (i' := 22) (lv' := [some (vR 202), some (vI (nI r)), some (vI v)]) (st' := [vI v, vI (S (177 + 3 * r + 1))]) rfl ?_
    refine g_if2 (i' := 30) (P := ¬ S (177 + 3 * r + 1) = v) rfl rfl Iff.rfl (fun h2 => ?_) (fun h2 => ?_)
    · refine g_pure 1 (i' := 31) (lv' := [some (vR 202), some (vI (nI r)), some (vI v)]) (st' := [vI (-1)]) rfl ?_
      refine g_iret rfl ?_
      exact o1 h1 h2
    · have h2 := Classical.not_not.mp h2
      refine g_pure 3 (i' := 26) (lv' := [some (vR 202), some (vI (nI r)), some (vI v)]) (st' := [vI (nI r), vR 205]) rfl ?_
      refine g_aald rfl (Or.inl rfl) (g_A (a := 205) (kd := 5) (n := 12) rfl (by decide)) (by decide) (show nI r = nI r from (rfl : nI r = nI r)) (by omega) (gR_205 (by omega)) ?_
      refine g_pure 1 (i' := 28) (lv' := [some (vR 202), some (vI (nI r)), some (vI v)]) (st' := [vI 0, vR (222 + r)]) rfl ?_
      refine g_ald rfl (gA_205 (by omega)) (by decide) (show 0 = nI 0 from (show (0 : Int32) = nI 0 from rfl)) (by decide) (show _ = S (177 + 3 * r) from (hD.roa 0 (by omega) (by decide))) ?_
      refine g_pure 1 (i' := 31) (lv' := [some (vR 202), some (vI (nI r)), some (vI v)]) (st' := [vI (S (177 + 3 * r))]) rfl ?_
      refine g_iret rfl ?_
      exact o2 h1 h2
  · have h1 := Classical.not_not.mp h1
    refine g_pure 3 (i' := 11) (lv' := [some (vR 202), some (vI (nI r)), some (vI v)]) (st' := [vI (nI r), vR 205]) rfl ?_
    refine g_aald rfl (Or.inl rfl) (g_A (a := 205) (kd := 5) (n := 12) rfl (by decide)) (by decide) (show nI r = nI r from (rfl : nI r = nI r)) (by omega) (gR_205 (by omega)) ?_
    refine g_pure 1 (i' := 13) (lv' := [some (vR 202), some (vI (nI r)), some (vI v)]) (st' := [vI 1, vR (222 + r)]) rfl ?_
    refine g_ald rfl (gA_205 (by omega)) (by decide) (show 1 = nI 1 from (show (1 : Int32) = nI 1 from rfl)) (by decide) (show _ = S (177 + 3 * r + 1) from (hD.roa 1 (by omega) (by decide))) ?_
    refine g_iret rfl ?_
    exact o3 h1

theorem b_152_e {X : Nat × (Nat → Int32)} {d : Nat} {p : Nat → Nat} {sg : Mg} {Q : am_R → Prop} {B : Nat} {S : Nat → Int32} (hI : Inv B S) (hL : cwL 250 sg S) (hD : cwD 200 sg S) {k : Nat} {r : Nat} {z4 : Option AV} {t : Nat} (u_k : k ≤ 7) (u_r : r ≤ 11) (u_t : t ≤ 5) (q1 : k < sn S 1) (q2 : r < sn S 3)
    (o1 : ∀ s1 : Mg, s1 = mu sg 252 k (-1) → ∀ s2 : Mg, s2 = mu s1 253 k (nI t) → ∀ s3 : Mg, s3 = mu s2 254 k (S 8 + S (177 + 3 * r + 2)) → cwL 250 s3 (upd (upd (upd S (113 + 6 * k) (-1)) (113 + 6 * k + 1) (nI t)) (113 + 6 * k + 2) (S 8 + S (177 + 3 * r + 2))) → cwD 200 s3 (upd (upd (upd S (113 + 6 * k) (-1)) (113 + 6 * k + 1) (nI t)) (113 + 6 * k + 2) (S 8 + S (177 + 3 * r + 2))) → Q (gRv p s3 (S 8 + S (177 + 3 * r + 2)))) :
    gW X (d + 6) k_152 42 [some (vR 0), some (vI (nI k)), some (vI (nI r)), some (vR 250), z4, some (vI (nI t))] [] p sg Q := by
  have b0 := hI.b0; have b1 := hI.b1; have b2 := hI.b2; have b3 := hI.b3; have b4 := hI.b4; have b5 := hI.b5; have b6 := hI.b6; have b7 := hI.b7; have b8 := hI.b8; have b9 := hI.b9; have b14 := hI.b14
  refine g_pure 4 (i' := 46) (lv' := [some (vR 0), some (vI (nI k)), some (vI (nI r)), some (vR 250), z4, some (vI (nI t))]) (st' := [vI (-1), vI (nI k), vR 252]) rfl ?_
  refine g_ast rfl (g_A (a := 252) (kd := 1) (n := 8) rfl (by decide)) (by decide) (show nI k = nI k from (rfl : nI k = nI k)) (by omega) ?_
  refine g_setv (fun s1 es1 => ?_)
  have hLs1 : cwL 250 s1 (upd S (113 + 6 * k) (-1)) := by rw [es1]; exact hL.wper (j := 0) (by decide) (by omega)
  have hDs1 : cwD 200 s1 (upd S (113 + 6 * k) (-1)) := by rw [es1]; exact hD.life (by decide) (by unfold noLand; omega)
  refine g_pure 4 (i' := 51) (lv' := [some (vR 0), some (vI (nI k)), some (vI (nI r)), some (vR 250), z4, some (vI (nI t))]) (st' := [vI (nI t), vI (nI k), vR 253]) rfl ?_
  refine g_ast rfl (g_A (a := 253) (kd := 1) (n := 8) rfl (by decide)) (by decide) (show nI k = nI k from (rfl : nI k = nI k)) (by omega) ?_
  refine g_setv (fun s2 es2 => ?_)
  have hLs2 : cwL 250 s2 (upd (upd S (113 + 6 * k) (-1)) (113 + 6 * k + 1) (nI t)) := by rw [es2]; exact hLs1.wper (j := 1) (by decide) (by omega)
  have hDs2 : cwD 200 s2 (upd (upd S (113 + 6 * k) (-1)) (113 + 6 * k + 1) (nI t)) := by rw [es2]; exact hDs1.life (by decide) (by unfold noLand; omega)
  refine g_pure 4 (i' := 56) (lv' := [some (vR 0), some (vI (nI k)), some (vI (nI r)), some (vR 250), z4, some (vI (nI t))]) (st' := [vR 250, vI (nI k), vR 254]) rfl ?_
  refine g_getI rfl (g_A (a := 250) (kd := 0) (n := 6) rfl (by decide)) (show _ = S 8 from ((hLs2.f12).trans (upd_ne (by omega))).trans (upd_ne (by omega))) ?_
  refine g_pure 5 (i' := 62) (lv' := [some (vR 0), some (vI (nI k)), some (vI (nI r)), some (vR 250), z4, some (vI (nI t))]) (st' := [vI (nI r), vR 205, vI (S 8), vI (nI k), vR 254]) rfl ?_
  refine g_aald rfl (Or.inl rfl) (g_A (a := 205) (kd := 5) (n := 12) rfl (by decide)) (by decide) (show nI r = nI r from (rfl : nI r = nI r)) (by omega) (gR_205 (by omega)) ?_
  refine g_pure 1 (i' := 64) (lv' := [some (vR 0), some (vI (nI k)), some (vI (nI r)), some (vR 250), z4, some (vI (nI t))]) (st' := [vI 2, vR (222 + r), vI (S 8), vI (nI k), vR 254]) rfl ?_
  refine g_ald rfl (gA_205 (by omega)) (by decide) (show 2 = nI 2 from (show (2 : Int32) = nI 2 from rfl)) (by decide) (show _ = S (177 + 3 * r + 2) from (((hDs2.roa 2 (by omega) (by decide))).trans (upd_ne (by omega))).trans (upd_ne (by omega))) ?_
  refine g_pure 1 (i' := 66) (lv' := [some (vR 0), some (vI (nI k)), some (vI (nI r)), some (vR 250), z4, some (vI (nI t))]) (st' := [vI (S 8 + S (177 + 3 * r + 2)), vI (nI k), vR 254]) rfl ?_
  refine g_ast rfl (g_A (a := 254) (kd := 1) (n := 8) rfl (by decide)) (by decide) (show nI k = nI k from (rfl : nI k = nI k)) (by omega) ?_
  refine g_setv (fun s3 es3 => ?_)
  have hLs3 : cwL 250 s3 (upd (upd (upd S (113 + 6 * k) (-1)) (113 + 6 * k + 1) (nI t)) (113 + 6 * k + 2) (S 8 + S (177 + 3 * r + 2))) := by rw [es3]; exact hLs2.wper (j := 2) (by decide) (by omega)
  have hDs3 : cwD 200 s3 (upd (upd (upd S (113 + 6 * k) (-1)) (113 + 6 * k + 1) (nI t)) (113 + 6 * k + 2) (S 8 + S (177 + 3 * r + 2))) := by rw [es3]; exact hDs2.life (by decide) (by unfold noLand; omega)
  refine g_pure 3 (i' := 70) (lv' := [some (vR 0), some (vI (nI k)), some (vI (nI r)), some (vR 250), z4, some (vI (nI t))]) (st' := [vI (nI k), vR 254]) rfl ?_
  refine g_ald rfl (g_A (a := 254) (kd := 1) (n := 8) rfl (by decide)) (by decide) (show nI k = nI k from (rfl : nI k = nI k)) (by omega) (show _ = (S 8 + S (177 + 3 * r + 2)) from ((hLs3.per 2 (by decide) (by omega))).trans upd_self) ?_
  refine g_iret rfl ?_
  exact o1 s1 es1 s2 es2 s3 es3 hLs3 hDs3

theorem s_39m {X : Nat × (Nat → Int32)} {d : Nat} {p : Nat → Nat} {sg : Mg} {B : Nat} {S : Nat → Int32} (hI : Inv B S) (hL : cwL 250 sg S) (hD : cwD 200 sg S) {r : Nat} (u_r : r ≤ 11) (hr : r < sn S 3) : gF X (d + 2) 39 [vR 202, vI (nI r), vI (-1)] p sg (fun q => q = gRv p sg (-1)) := by
  have b0 := hI.b0
  refine g_in (cd := k_39) (nL := 3) (rc := 4) rfl (g_A (a := 202) (kd := 0) (n := 3) rfl (by decide)) (g_c1 rfl) (b_39_m hI hL hD u_r hr (fun h1 h2 => rfl) (fun h1 h2 => ?_) (fun h1 => ?_))
  · have := (hI.roa hr).2.1; have l9 := this.2; rw [this.1] at h2; exact absurd h2 (nI_m1 (by omega))
  · have := (hI.roa hr).1; have l9 := this.2; rw [this.1] at h1; exact absurd h1 (nI_m1 (by omega))

theorem b_152_x {X : Nat × (Nat → Int32)} {d : Nat} {p : Nat → Nat} {sg : Mg} {Q : am_R → Prop} {B : Nat} {S : Nat → Int32} (hI : Inv B S) (hL : cwL 250 sg S) (hD : cwD 200 sg S) {k : Nat} {r : Nat} (u_k : k ≤ 7) (u_r : r ≤ 11) (q1 : k < sn S 1) (q2 : r < sn S 3) (hv : S (113 + 6 * k) = -1)
    (o1 : Q (gRx p sg 4)) :
    gW X (d + 6) k_152 8 [some (vR 0), some (vI (nI k)), some (vI (nI r)), none, none, none] [] p sg Q := by
  have b0 := hI.b0; have b1 := hI.b1; have b2 := hI.b2; have b3 := hI.b3; have b4 := hI.b4; have b5 := hI.b5; have b6 := hI.b6; have b7 := hI.b7; have b8 := hI.b8; have b9 := hI.b9; have b14 := hI.b14
  refine g_pure 7 (i' := 15) (lv' := [some (vR 0), some (vI (nI k)), some (vI (nI r)), some (vR 250), none, none]) (st' := [vI (nI k), vR 252]) rfl ?_
  refine g_ald rfl (g_A (a := 252) (kd := 1) (n := 8) rfl (by decide)) (by decide) (show nI k = nI k from (rfl : nI k = nI k)) (by omega) (show _ = (-1) from ((hL.per 0 (by decide) (by omega))).trans hv) ?_
  refine g_pure 6 (i' := 22) (lv' := [some (vR 0), some (vI (nI k)), some (vI (nI r)), some (vR 250), some (vI (-1)), none]) (st' := [vI (-1), vI (nI r), vR 202]) rfl ?_
  refine g_cV1 rfl (args := [vR 202, vI (nI r), vI (-1)]) (rest := []) rfl rfl rfl (s_39m (d := d + 4) hI hL hD (by omega) (by omega)) ?_
  refine g_pure 3 (i' := 26) (lv' := [some (vR 0), some (vI (nI k)), some (vI (nI r)), some (vR 250), some (vI (-1)), some (vI (-1))]) (st' := [vI (-1), vI (-1)]) rfl ?_
  refine g_if2 (i' := 35) (P := ((-1) : Int32) = (-1)) rfl rfl Iff.rfl (fun _ => ?_) (fun h1 => absurd (by decide) h1)
  refine g_thr' rfl rfl ?_
  exact o1

theorem b_252_0 {X : Nat × (Nat → Int32)} {d : Nat} {p : Nat → Nat} {sg : Mg} {Q : am_R → Prop} {B : Nat} {S : Nat → Int32} (hI : Inv B S) (hS : sg 801 = S) {x : Int32} {y : Int32}
    (o1 : ∀ s1 : Mg, s1 = mu sg 800 0 0 → (¬ okx x (sn S 1)) → ∀ s3 : Mg, s3 = mu s1 800 0 (nI 1) → Q (gRv p s3 0))
    (o2 : ∀ s1 : Mg, s1 = mu sg 800 0 0 → ∀ n5 : Nat, x = nI n5 → n5 < sn S 1 → ∀ n7 : Nat, y = nI n7 → n7 < sn S 3 → gW X (d + 8) k_252 24 [some (vR 800), some (vI (nI n5)), some (vI (nI n7)), none] [] p s1 Q)
    (o3 : ∀ s1 : Mg, s1 = mu sg 800 0 0 → ∀ n5 : Nat, x = nI n5 → n5 < sn S 1 → (¬ okx y (sn S 3)) → ∀ s9 : Mg, s9 = mu s1 800 0 (nI 1) → Q (gRv p s9 0)) :
    gW X (d + 8) k_252 0 [some (vR 800), some (vI x), some (vI y), none] [] p sg Q := by
  have b0 := hI.b0; have b1 := hI.b1; have b2 := hI.b2; have b3 := hI.b3; have b4 := hI.b4; have b5 := hI.b5; have b6 := hI.b6; have b7 := hI.b7; have b8 := hI.b8; have b9 := hI.b9; have b14 := hI.b14
  refine g_pure 2 (i' := 2) (lv' := [some (vR 800), some (vI x), some (vI y), none]) (st' := [vI 0, vR 800]) rfl ?_
  refine g_putI rfl (g_A (a := 800) (kd := 0) (n := 12) rfl (by decide)) ?_
  refine g_setv (fun s1 es1 => ?_)
  have hSs1 : s1 801 = S := by rw [es1, mu_ne (by decide), hS]
  refine g_pure 3 (i' := 6) (lv' := [some (vR 800), some (vI x), some (vI y), none]) (st' := [vI x, vR 800, vR 800]) rfl ?_
  refine g_cV1 rfl (args := [vR 800, vI x]) (rest := [vR 800]) rfl rfl rfl (s_237 (d := d + 6) hI hSs1) ?_
  refine g_if1 (i' := 16) (P := ¬ okx x (sn S 1)) rfl rfl g_neB (fun h2 => ?_) (fun h2 => ?_)
  · refine g_pure 3 (i' := 20) (lv' := [some (vR 800), some (vI x), some (vI y), none]) (st' := [vI 1, vI 1, vR 800]) rfl ?_
    refine gW_eq (st' := [vI (nI 1), vI 1, vR 800]) rfl (by rw [(show (1 : Int32) = nI 1 from rfl)]) rfl ?_
    refine g_cV1 rfl (args := [vR 800, vI 1, vI (nI 1)]) (rest := []) rfl rfl rfl (s_227t (d := d + 7) (by omega)) ?_
    refine g_setv (fun s3 es3 => ?_)
    have hSs3 : s3 801 = S := by rw [es3, mu_ne (by decide), hSs1]
    refine g_if1 (i' := 24) (P := 1 = 0) rfl rfl (g_eqN (show 1 = nI 1 from (show (1 : Int32) = nI 1 from rfl)) (show 0 = nI 0 from (show (0 : Int32) = nI 0 from rfl)) (by omega) (by omega)) (fun h4 => absurd h4 (by omega)) (fun _ => ?_)
    refine g_pure 1 (i' := 23) (lv' := [some (vR 800), some (vI x), some (vI y), none]) (st' := [vI 0]) rfl ?_
    refine g_iret rfl ?_
    exact o1 s1 es1 h2 s3 es3
  · have h2 := Classical.not_not.mp h2
    obtain ⟨n5, ln5, en5⟩ := okx_of h2
    subst en5
    refine g_pure 3 (i' := 11) (lv' := [some (vR 800), some (vI (nI n5)), some (vI y), none]) (st' := [vR 800, vI 0, vI y, vR 800]) rfl ?_
    refine g_cV1 rfl (args := [vR 800]) (rest := [vI 0, vI y, vR 800]) rfl rfl rfl (s_209 (d := d + 7) hSs1) ?_
    refine g_pure 1 (i' := 13) (lv' := [some (vR 800), some (vI (nI n5)), some (vI y), none]) (st' := [vI 1, vI (S 3), vI 0, vI y, vR 800]) rfl ?_
    refine gW_eq (lv' := [some (vR 800), some (vI (nI n5)), some (vI y), none]) (st' := [vI 1, vI (nI (sn S 3)), vI 0, vI y, vR 800]) rfl (by rw [(show S 3 = nI (sn S 3) from (hI.c3))]) rfl ?_
    refine g_pure 1 (i' := 14) (lv' := [some (vR 800), some (vI (nI n5)), some (vI y), none]) (st' := [vI (nI (sn S 3) - 1), vI 0, vI y, vR 800]) rfl ?_
    refine g_cS1 rfl (args := [vI y, vI 0, vI (nI (sn S 3) - 1)]) (rest := [vR 800]) rfl rfl rfl (s_231x (d := d + 7) (by omega)) ?_
    refine g_if1 (i' := 18) (P := okx y (sn S 3)) rfl rfl g_neB (fun h6 => ?_) (fun h6 => ?_)
    · obtain ⟨n7, ln7, en7⟩ := okx_of h6
      subst en7
      refine g_pure 2 (i' := 20) (lv' := [some (vR 800), some (vI (nI n5)), some (vI (nI n7)), none]) (st' := [vI 1, vI 0, vR 800]) rfl ?_
      refine gW_eq (st' := [vI (nI 1), vI 0, vR 800]) rfl (by rw [(show (1 : Int32) = nI 1 from rfl)]) rfl ?_
      refine g_cV1 rfl (args := [vR 800, vI 0, vI (nI 1)]) (rest := []) rfl rfl rfl (s_227f (d := d + 7) (by omega)) ?_
      refine g_if1 (i' := 24) (P := 0 = 0) rfl rfl (g_eqN (show 0 = nI 0 from (show (0 : Int32) = nI 0 from rfl)) (show 0 = nI 0 from (show (0 : Int32) = nI 0 from rfl)) (by omega) (by omega)) (fun _ => ?_) (fun h8 => absurd (by omega) h8)
      exact o2 s1 es1 n5 rfl ln5 n7 rfl ln7
    · refine g_pure 3 (i' := 20) (lv' := [some (vR 800), some (vI (nI n5)), some (vI y), none]) (st' := [vI 1, vI 1, vR 800]) rfl ?_
      refine gW_eq (st' := [vI (nI 1), vI 1, vR 800]) rfl (by rw [(show (1 : Int32) = nI 1 from rfl)]) rfl ?_
      refine g_cV1 rfl (args := [vR 800, vI 1, vI (nI 1)]) (rest := []) rfl rfl rfl (s_227t (d := d + 7) (by omega)) ?_
      refine g_setv (fun s9 es9 => ?_)
      have hSs9 : s9 801 = S := by rw [es9, mu_ne (by decide), hSs1]
      refine g_if1 (i' := 24) (P := 1 = 0) rfl rfl (g_eqN (show 1 = nI 1 from (show (1 : Int32) = nI 1 from rfl)) (show 0 = nI 0 from (show (0 : Int32) = nI 0 from rfl)) (by omega) (by omega)) (fun h10 => absurd h10 (by omega)) (fun _ => ?_)
      refine g_pure 1 (i' := 23) (lv' := [some (vR 800), some (vI (nI n5)), some (vI y), none]) (st' := [vI 0]) rfl ?_
      refine g_iret rfl ?_
      exact o3 s1 es1 n5 rfl ln5 h6 s9 es9

theorem b_252_v {X : Nat × (Nat → Int32)} {d : Nat} {p : Nat → Nat} {sg : Mg} {Q : am_R → Prop} {B : Nat} {S : Nat → Int32} (hI : Inv B S) (hS : sg 801 = S) {v : Nat} (hA : InvA S) {k : Nat} {r : Nat} (u_k : k ≤ 7) (u_r : r ≤ 11) (q1 : k < sn S 1) (q2 : r < sn S 3) (q3 : v < sn S 0) (hv : S (113 + 6 * k) = nI v)
    (o1 : (otP S r v) → ∀ s5 : Mg, (∃ f, s5 = va_up sg 807 f) → (¬ (brd S (scf S k v (sn S 8)) 0 = true)) → gW X (d + 8) k_252 52 [some (vR 800), some (vI (nI k)), some (vI (nI r)), some (vI (nI v))] [] p s5 Q)
    (o2 : (otP S r v) → ∀ s5 : Mg, (∃ f, s5 = va_up sg 807 f) → ((brd S (scf S k v (sn S 8)) 0 = true)) → ∀ s8 : Mg, s8 = mu s5 800 0 (nI 2) → Q (gRv p s8 0))
    (o3 : (¬ otP S r v) → ∀ s11 : Mg, s11 = mu sg 800 0 (nI 2) → Q (gRv p s11 0)) :
    gW X (d + 8) k_252 24 [some (vR 800), some (vI (nI k)), some (vI (nI r)), none] [] p sg Q := by
  have b0 := hI.b0; have b1 := hI.b1; have b2 := hI.b2; have b3 := hI.b3; have b4 := hI.b4; have b5 := hI.b5; have b6 := hI.b6; have b7 := hI.b7; have b8 := hI.b8; have b9 := hI.b9; have b14 := hI.b14
  refine g_pure 3 (i' := 27) (lv' := [some (vR 800), some (vI (nI k)), some (vI (nI r)), none]) (st' := [vI 0, vI (nI k), vR 800]) rfl ?_
  refine gW_eq (st' := [vI (nI 0), vI (nI k), vR 800]) rfl (by rw [(show (0 : Int32) = nI 0 from rfl)]) rfl ?_
  refine g_cV1 rfl (args := [vR 800, vI (nI k), vI (nI 0)]) (rest := []) rfl rfl rfl (s_238 (d := d + 7) hS (by omega) (by omega)) ?_
  refine gW_eq (st' := [vI (S (113 + 6 * k))]) rfl (by rw [show S (113 + 6 * k + 0) = S (113 + 6 * k) from congrArg S (by omega)]) rfl ?_
  refine gW_eq (st' := [vI (nI v)]) rfl (by rw [show S (113 + 6 * k) = nI v from hv]) rfl ?_
  refine g_pure 3 (i' := 31) (lv' := [some (vR 800), some (vI (nI k)), some (vI (nI r)), some (vI (nI v))]) (st' := [vI (nI v), vR 800]) rfl ?_
  refine g_if1 (i' := 44) (P := v < 0) rfl rfl (g_ltN (show nI v = nI v from (rfl : nI v = nI v)) (show 0 = nI 0 from (show (0 : Int32) = nI 0 from rfl)) (by omega) (by omega)) (fun h1 => absurd h1 (by omega)) (fun _ => ?_)
  refine g_pure 3 (i' := 35) (lv' := [some (vR 800), some (vI (nI k)), some (vI (nI r)), some (vI (nI v))]) (st' := [vI (nI v), vI (nI r), vR 800, vR 800]) rfl ?_
  by_cases h2 : otP S r v
  · refine g_cV1 rfl (args := [vR 800, vI (nI r), vI (nI v)]) (rest := [vR 800]) rfl rfl rfl (s_253o (d := d + 6) hI hS (by omega) (by omega) (by omega) (by assumption)) ?_
    have t3 := otN_lt hI (r := r) (by omega) v
    refine g_if1 (i' := 44) (P := otN S r v < 0) rfl rfl (g_ltN (show nI (otN S r v) = nI (otN S r v) from (rfl : nI (otN S r v) = nI (otN S r v))) (show 0 = nI 0 from (show (0 : Int32) = nI 0 from rfl)) (by omega) (by omega)) (fun h4 => absurd h4 (by omega)) (fun _ => ?_)
    refine g_pure 4 (i' := 41) (lv' := [some (vR 800), some (vI (nI k)), some (vI (nI r)), some (vI (nI v))]) (st' := [vR 800, vI (nI v), vI (nI k), vR 800, vR 800]) rfl ?_
    refine g_cV1 rfl (args := [vR 800]) (rest := [vI (nI v), vI (nI k), vR 800, vR 800]) rfl rfl rfl (s_248 (d := d + 7) hS) ?_
    refine gW_eq (st' := [vI (nI (sn S 8)), vI (nI v), vI (nI k), vR 800, vR 800]) rfl (by rw [(show S 8 = nI (sn S 8) from (hI.c8))]) rfl ?_
    refine g_cV1E rfl (args := [vR 800, vI (nI k), vI (nI v), vI (nI (sn S 8))]) (rest := [vR 800]) rfl rfl rfl (s_254 (d := d + 1) hI hS hA (by omega) (by omega) (by omega)) (fun s5 es5 => ?_)
    have hSs5 : s5 801 = S := by obtain ⟨f9, h9⟩ := es5; rw [h9, va_up_ne _ _ (by decide)]; exact hS
    refine g_if1 (i' := 46) (P := ¬ (brd S (scf S k v (sn S 8)) 0 = true)) rfl rfl g_eqB (fun h6 => ?_) (fun h6 => ?_)
    · refine g_pure 2 (i' := 48) (lv' := [some (vR 800), some (vI (nI k)), some (vI (nI r)), some (vI (nI v))]) (st' := [vI 2, vI 0, vR 800]) rfl ?_
      refine gW_eq (st' := [vI (nI 2), vI 0, vR 800]) rfl (by rw [(show (2 : Int32) = nI 2 from rfl)]) rfl ?_
      refine g_cV1 rfl (args := [vR 800, vI 0, vI (nI 2)]) (rest := []) rfl rfl rfl (s_227f (d := d + 7) (by omega)) ?_
      refine g_if1 (i' := 52) (P := 0 = 0) rfl rfl (g_eqN (show 0 = nI 0 from (show (0 : Int32) = nI 0 from rfl)) (show 0 = nI 0 from (show (0 : Int32) = nI 0 from rfl)) (by omega) (by omega)) (fun _ => ?_) (fun h7 => absurd (by omega) h7)
      exact o1 h2 s5 es5 h6
    · have h6 := Classical.not_not.mp h6
      refine g_pure 3 (i' := 48) (lv' := [some (vR 800), some (vI (nI k)), some (vI (nI r)), some (vI (nI v))]) (st' := [vI 2, vI 1, vR 800]) rfl ?_
      refine gW_eq (st' := [vI (nI 2), vI 1, vR 800]) rfl (by rw [(show (2 : Int32) = nI 2 from rfl)]) rfl ?_
      refine g_cV1 rfl (args := [vR 800, vI 1, vI (nI 2)]) (rest := []) rfl rfl rfl (s_227t (d := d + 7) (by omega)) ?_
      refine g_setv (fun s8 es8 => ?_)
      have hSs8 : s8 801 = S := by rw [es8, mu_ne (by decide), hSs5]
      refine g_if1 (i' := 52) (P := 1 = 0) rfl rfl (g_eqN (show 1 = nI 1 from (show (1 : Int32) = nI 1 from rfl)) (show 0 = nI 0 from (show (0 : Int32) = nI 0 from rfl)) (by omega) (by omega)) (fun h9 => absurd h9 (by omega)) (fun _ => ?_)
      refine g_pure 1 (i' := 51) (lv' := [some (vR 800), some (vI (nI k)), some (vI (nI r)), some (vI (nI v))]) (st' := [vI 0]) rfl ?_
      refine g_iret rfl ?_
      exact o2 h2 s5 es5 h6 s8 es8
  · refine g_cV1 rfl (args := [vR 800, vI (nI r), vI (nI v)]) (rest := [vR 800]) rfl rfl rfl (s_253x (d := d + 6) hI hS (by omega) (by omega) (by omega) (by assumption)) ?_
    refine g_if1 (i' := 44) (P := ((-1) : Int32) < 0) rfl rfl Iff.rfl (fun _ => ?_) (fun h10 => absurd (by decide) h10)
    refine g_pure 3 (i' := 48) (lv' := [some (vR 800), some (vI (nI k)), some (vI (nI r)), some (vI (nI v))]) (st' := [vI 2, vI 1, vR 800]) rfl ?_
    refine gW_eq (st' := [vI (nI 2), vI 1, vR 800]) rfl (by rw [(show (2 : Int32) = nI 2 from rfl)]) rfl ?_
    refine g_cV1 rfl (args := [vR 800, vI 1, vI (nI 2)]) (rest := []) rfl rfl rfl (s_227t (d := d + 7) (by omega)) ?_
    refine g_setv (fun s11 es11 => ?_)
    have hSs11 : s11 801 = S := by rw [es11, mu_ne (by decide), hS]
    refine g_if1 (i' := 52) (P := 1 = 0) rfl rfl (g_eqN (show 1 = nI 1 from (show (1 : Int32) = nI 1 from rfl)) (show 0 = nI 0 from (show (0 : Int32) = nI 0 from rfl)) (by omega) (by omega)) (fun h12 => absurd h12 (by omega)) (fun _ => ?_)
    refine g_pure 1 (i' := 51) (lv' := [some (vR 800), some (vI (nI k)), some (vI (nI r)), some (vI (nI v))]) (st' := [vI 0]) rfl ?_
    refine g_iret rfl ?_
    exact o3 h2 s11 es11

theorem b_252_x {X : Nat × (Nat → Int32)} {d : Nat} {p : Nat → Nat} {sg : Mg} {Q : am_R → Prop} {B : Nat} {S : Nat → Int32} (hI : Inv B S) (hS : sg 801 = S) {k : Nat} {r : Nat} (u_k : k ≤ 7) (u_r : r ≤ 11) (q1 : k < sn S 1) (q2 : r < sn S 3) (hv : S (113 + 6 * k) = -1)
    (o1 : ∀ s2 : Mg, s2 = mu sg 800 0 (nI 2) → Q (gRv p s2 0)) :
    gW X (d + 8) k_252 24 [some (vR 800), some (vI (nI k)), some (vI (nI r)), none] [] p sg Q := by
  have b0 := hI.b0; have b1 := hI.b1; have b2 := hI.b2; have b3 := hI.b3; have b4 := hI.b4; have b5 := hI.b5; have b6 := hI.b6; have b7 := hI.b7; have b8 := hI.b8; have b9 := hI.b9; have b14 := hI.b14
  refine g_pure 3 (i' := 27) (lv' := [some (vR 800), some (vI (nI k)), some (vI (nI r)), none]) (st' := [vI 0, vI (nI k), vR 800]) rfl ?_
  refine gW_eq (st' := [vI (nI 0), vI (nI k), vR 800]) rfl (by rw [(show (0 : Int32) = nI 0 from rfl)]) rfl ?_
  refine g_cV1 rfl (args := [vR 800, vI (nI k), vI (nI 0)]) (rest := []) rfl rfl rfl (s_238 (d := d + 7) hS (by omega) (by omega)) ?_
  refine gW_eq (st' := [vI (S (113 + 6 * k))]) rfl (by rw [show S (113 + 6 * k + 0) = S (113 + 6 * k) from congrArg S (by omega)]) rfl ?_
  refine gW_eq (st' := [vI (-1)]) rfl (by rw [show S (113 + 6 * k) = (-1) from hv]) rfl ?_
  refine g_pure 3 (i' := 31) (lv' := [some (vR 800), some (vI (nI k)), some (vI (nI r)), some (vI (-1))]) (st' := [vI (-1), vR 800]) rfl ?_
  refine g_if1 (i' := 44) (P := ((-1) : Int32) < 0) rfl rfl Iff.rfl (fun _ => ?_) (fun h1 => absurd (by decide) h1)
  refine g_pure 3 (i' := 48) (lv' := [some (vR 800), some (vI (nI k)), some (vI (nI r)), some (vI (-1))]) (st' := [vI 2, vI 1, vR 800]) rfl ?_
  refine gW_eq (st' := [vI (nI 2), vI 1, vR 800]) rfl (by rw [(show (2 : Int32) = nI 2 from rfl)]) rfl ?_
  refine g_cV1 rfl (args := [vR 800, vI 1, vI (nI 2)]) (rest := []) rfl rfl rfl (s_227t (d := d + 7) (by omega)) ?_
  refine g_setv (fun s2 es2 => ?_)
  have hSs2 : s2 801 = S := by rw [es2, mu_ne (by decide), hS]
  refine g_if1 (i' := 52) (P := 1 = 0) rfl rfl (g_eqN (show 1 = nI 1 from (show (1 : Int32) = nI 1 from rfl)) (show 0 = nI 0 from (show (0 : Int32) = nI 0 from rfl)) (by omega) (by omega)) (fun h3 => absurd h3 (by omega)) (fun _ => ?_)
  refine g_pure 1 (i' := 51) (lv' := [some (vR 800), some (vI (nI k)), some (vI (nI r)), some (vI (-1))]) (st' := [vI 0]) rfl ?_
  refine g_iret rfl ?_
  exact o1 s2 es2

theorem b_253_g {X : Nat × (Nat → Int32)} {d : Nat} {p : Nat → Nat} {sg : Mg} {Q : am_R → Prop} {S : Nat → Int32} (hS : sg 801 = S) {r : Nat} {v : Nat} (u_r : r ≤ 11) (u_v : v ≤ 5)
    (o1 : (¬ S (177 + 3 * r) = nI v) → (¬ S (177 + 3 * r + 1) = nI v) → Q (gRv p sg (-1)))
    (o2 : (¬ S (177 + 3 * r) = nI v) → (S (177 + 3 * r + 1) = nI v) → Q (gRv p sg (S (177 + 3 * r))))
    (o3 : (S (177 + 3 * r) = nI v) → Q (gRv p sg (S (177 + 3 * r + 1)))) :
    gW X (d + 1) k_253 0 [some (vR 800), some (vI (nI r)), some (vI (nI v))] [] p sg Q := by
  refine g_pure 3 (i' := 3) (lv' := [some (vR 800), some (vI (nI r)), some (vI (nI v))]) (st' := [vI 0, vI (nI r), vR 800]) rfl ?_
  refine gW_eq (st' := [vI (nI 0), vI (nI r), vR 800]) rfl (by rw [(show (0 : Int32) = nI 0 from rfl)]) rfl ?_
  refine g_cV1 rfl (args := [vR 800, vI (nI r), vI (nI 0)]) (rest := []) rfl rfl rfl (s_241 (d := d) hS (by omega) (by omega)) ?_
  refine gW_eq (st' := [vI (S (177 + 3 * r))]) rfl (by rw [show S (177 + 3 * r + 0) = S (177 + 3 * r) from congrArg S (by omega)]) rfl ?_
  refine g_pure 1 (i' := 5) (lv' := [some (vR 800), some (vI (nI r)), some (vI (nI v))]) (st' := [vI (nI v), vI (S (177 + 3 * r))]) rfl ?_
  refine g_if2 (i' := 11) (P := ¬ S (177 + 3 * r) = nI v) rfl rfl Iff.rfl (fun h1 => ?_) (fun h1 => ?_)
  · refine g_pure 3 (i' := 14) (lv' := [some (vR 800), some (vI (nI r)), some (vI (nI v))]) (st' := [vI 1, vI (nI r), vR 800]) rfl ?_
    refine gW_eq (st' := [vI (nI 1), vI (nI r), vR 800]) rfl (by rw [(show (1 : Int32) = nI 1 from rfl)]) rfl ?_
    refine g_cV1 rfl (args := [vR 800, vI (nI r), vI (nI 1)]) (rest := []) rfl rfl rfl (s_241 (d := d) hS (by omega) (by omega)) ?_
    refine g_pure 1 (i' := 16) (lv' := [some (vR 800), some (vI (nI r)), some (vI (nI v))]) (st' := [vI (nI v), vI (S (177 + 3 * r + 1))]) rfl ?_
    refine g_if2 (i' := 22) (P := ¬ S (177 + 3 * r + 1) = nI v) rfl rfl Iff.rfl (fun h2 => ?_) (fun h2 => ?_)
    · refine g_pure 1 (i' := 23) (lv' := [some (vR 800), some (vI (nI r)), some (vI (nI v))]) (st' := [vI (-1)]) rfl ?_
      refine g_iret rfl ?_
      exact o1 h1 h2
    · have h2 := Classical.not_not.mp h2
      refine g_pure 3 (i' := 20) (lv' := [some (vR 800), some (vI (nI r)), some (vI (nI v))]) (st' := [vI 0, vI (nI r), vR 800]) rfl ?_
      refine gW_eq (st' := [vI (nI 0), vI (nI r), vR 800]) rfl (by rw [(show (0 : Int32) = nI 0 from rfl)]) rfl ?_
      refine g_cV1 rfl (args := [vR 800, vI (nI r), vI (nI 0)]) (rest := []) rfl rfl rfl (s_241 (d := d) hS (by omega) (by omega)) ?_
      refine gW_eq (st' := [vI (S (177 + 3 * r))]) rfl (by rw [show S (177 + 3 * r + 0) = S (177 + 3 * r) from congrArg S (by omega)]) rfl ?_
      refine g_pure 1 (i' := 23) (lv' := [some (vR 800), some (vI (nI r)), some (vI (nI v))]) (st' := [vI (S (177 + 3 * r))]) rfl ?_
      refine g_iret rfl ?_
      exact o2 h1 h2
  · have h1 := Classical.not_not.mp h1
    refine g_pure 3 (i' := 9) (lv' := [some (vR 800), some (vI (nI r)), some (vI (nI v))]) (st' := [vI 1, vI (nI r), vR 800]) rfl ?_
    refine gW_eq (st' := [vI (nI 1), vI (nI r), vR 800]) rfl (by rw [(show (1 : Int32) = nI 1 from rfl)]) rfl ?_
    refine g_cV1 rfl (args := [vR 800, vI (nI r), vI (nI 1)]) (rest := []) rfl rfl rfl (s_241 (d := d) hS (by omega) (by omega)) ?_
    refine g_pure 1 (i' := 23) (lv' := [some (vR 800), some (vI (nI r)), some (vI (nI v))]) (st' := [vI (S (177 + 3 * r + 1))]) rfl ?_
    refine g_iret rfl ?_
    exact o3 h1

theorem s_253g {X : Nat × (Nat → Int32)} {d : Nat} {p : Nat → Nat} {sg : Mg} {B : Nat} {S T : Nat → Int32} (hI : Inv B S) (hS : sg 801 = T) {r v : Nat} (u_r : r ≤ 11) (u_v : v ≤ 5) (hr : r < sn S 3) (h : otP S r v) (he : ∀ i, i = 0 ∨ i = 3 ∨ (177 ≤ i ∧ i < 213) → T i = S i) : gF X (d + 2) 253 [vR 800, vI (nI r), vI (nI v)] p sg (fun q => q = gRv p sg (nI (otN S r v))) := by
  have b0 := hI.b0
  have r1 := (hI.roa hr).1; have r2 := (hI.roa hr).2.1
  have l1 := r1.2; have l2 := r2.2
  have e1 : T (177 + 3 * r) = nI (sn S (177 + 3 * r)) := (he _ (by omega)).trans r1.1
  have e2 : T (177 + 3 * r + 1) = nI (sn S (177 + 3 * r + 1)) := (he _ (by omega)).trans r2.1
  unfold otP at h
  unfold otN
  refine g_in (cd := k_253) (nL := 3) (rc := 13) rfl (g_A (a := 800) (kd := 0) (n := 12) rfl (by decide)) (g_c1 rfl) (b_253_g hS u_r u_v (fun h1 h2 => ?_) (fun h1 h2 => ?_) (fun h1 => ?_))
  · rw [e1, nI_eq (by omega) (by omega)] at h1; rw [e2, nI_eq (by omega) (by omega)] at h2; omega
  · rw [e1, nI_eq (by omega) (by omega)] at h1; rw [if_neg h1, e1]
  · rw [e1, nI_eq (by omega) (by omega)] at h1; rw [if_pos h1, e2]

theorem b_252_e {X : Nat × (Nat → Int32)} {d : Nat} {p : Nat → Nat} {sg : Mg} {Q : am_R → Prop} {B : Nat} {S : Nat → Int32} (hI : Inv B S) (hS : sg 801 = S) {k : Nat} {r : Nat} {v : Nat} (u_k : k ≤ 7) (u_r : r ≤ 11) (u_v : v ≤ 5) (q1 : k < sn S 1) (q2 : r < sn S 3) (hO : otP S r v)
    (o1 : ∀ s1 : Mg, s1 = mu sg 801 (113 + 6 * k) (-1) → ∀ s3 : Mg, s3 = mu s1 801 (113 + 6 * k + 1) (nI (otN S r v)) → ∀ s4 : Mg, s4 = mu s3 801 (113 + 6 * k + 2) (S 8 + S (177 + 3 * r + 2)) → s4 801 = (upd (upd (upd S (113 + 6 * k) (-1)) (113 + 6 * k + 1) (nI (otN S r v))) (113 + 6 * k + 2) (S 8 + S (177 + 3 * r + 2))) → Q (gRv p s4 (S 8 + S (177 + 3 * r + 2)))) :
    gW X (d + 8) k_252 54 [some (vR 800), some (vI (nI k)), some (vI (nI r)), some (vI (nI v))] [] p sg Q := by
  have b0 := hI.b0; have b1 := hI.b1; have b2 := hI.b2; have b3 := hI.b3; have b4 := hI.b4; have b5 := hI.b5; have b6 := hI.b6; have b7 := hI.b7; have b8 := hI.b8; have b9 := hI.b9; have b14 := hI.b14
  refine g_pure 4 (i' := 58) (lv' := [some (vR 800), some (vI (nI k)), some (vI (nI r)), some (vI (nI v))]) (st' := [vI (-1), vI 0, vI (nI k), vR 800]) rfl ?_
  refine gW_eq (st' := [vI (-1), vI (nI 0), vI (nI k), vR 800]) rfl (by rw [(show (0 : Int32) = nI 0 from rfl)]) rfl ?_
  refine g_cV0 rfl (args := [vR 800, vI (nI k), vI (nI 0), vI (-1)]) (rest := []) rfl rfl rfl (s_205 (d := d + 7) (by omega) (by omega)) ?_
  refine g_setv (fun s1 es1 => ?_)
  have hSs1 : s1 801 = upd S (113 + 6 * k) (-1) := by rw [es1, mu_row, hS]; rfl
  refine g_pure 6 (i' := 65) (lv' := [some (vR 800), some (vI (nI k)), some (vI (nI r)), some (vI (nI v))]) (st' := [vI (nI v), vI (nI r), vR 800, vI 1, vI (nI k), vR 800]) rfl ?_
  refine g_cV1 rfl (args := [vR 800, vI (nI r), vI (nI v)]) (rest := [vI 1, vI (nI k), vR 800]) rfl rfl rfl (s_253g (d := d + 6) hI hSs1 (by omega) (by omega) (by omega) hO (fun i hi => upd_ne (by omega))) ?_
  have t2 := otN_lt hI (r := r) (by omega) v
  refine gW_eq (st' := [vI (nI (otN S r v)), vI (nI 1), vI (nI k), vR 800]) rfl (by rw [(show (1 : Int32) = nI 1 from rfl)]) rfl ?_
  refine g_cV0 rfl (args := [vR 800, vI (nI k), vI (nI 1), vI (nI (otN S r v))]) (rest := []) rfl rfl rfl (s_205 (d := d + 7) (by omega) (by omega)) ?_
  refine g_setv (fun s3 es3 => ?_)
  have hSs3 : s3 801 = upd (upd S (113 + 6 * k) (-1)) (113 + 6 * k + 1) (nI (otN S r v)) := by rw [es3, mu_row, hSs1]
  refine g_pure 4 (i' := 71) (lv' := [some (vR 800), some (vI (nI k)), some (vI (nI r)), some (vI (nI v))]) (st' := [vR 800, vI 2, vI (nI k), vR 800]) rfl ?_
  refine g_cV1 rfl (args := [vR 800]) (rest := [vI 2, vI (nI k), vR 800]) rfl rfl rfl (s_248 (d := d + 7) hSs3) ?_
  refine gW_eq (st' := [vI (S 8), vI 2, vI (nI k), vR 800]) rfl (by rw [show (upd (upd S (113 + 6 * k) (-1)) (113 + 6 * k + 1) (nI (otN S r v))) 8 = S 8 from (show (upd (upd S (113 + 6 * k) (-1)) (113 + 6 * k + 1) (nI (otN S r v))) 8 = S 8 from ((rfl).trans (upd_ne (by omega))).trans (upd_ne (by omega)))]) rfl ?_
  refine g_pure 3 (i' := 75) (lv' := [some (vR 800), some (vI (nI k)), some (vI (nI r)), some (vI (nI v))]) (st' := [vI 2, vI (nI r), vR 800, vI (S 8), vI 2, vI (nI k), vR 800]) rfl ?_
  refine gW_eq (st' := [vI (nI 2), vI (nI r), vR 800, vI (S 8), vI 2, vI (nI k), vR 800]) rfl (by rw [(show (2 : Int32) = nI 2 from rfl)]) rfl ?_
  refine g_cV1 rfl (args := [vR 800, vI (nI r), vI (nI 2)]) (rest := [vI (S 8), vI 2, vI (nI k), vR 800]) rfl rfl rfl (s_241 (d := d + 7) hSs3 (by omega) (by omega)) ?_
  refine gW_eq (st' := [vI (S (177 + 3 * r + 2)), vI (S 8), vI 2, vI (nI k), vR 800]) rfl (by rw [show (upd (upd S (113 + 6 * k) (-1)) (113 + 6 * k + 1) (nI (otN S r v))) (177 + 3 * r + 2) = S (177 + 3 * r + 2) from (show (upd (upd S (113 + 6 * k) (-1)) (113 + 6 * k + 1) (nI (otN S r v))) (177 + 3 * r + 2) = S (177 + 3 * r + 2) from ((rfl).trans (upd_ne (by omega))).trans (upd_ne (by omega)))]) rfl ?_
  refine g_pure 1 (i' := 77) (lv' := [some (vR 800), some (vI (nI k)), some (vI (nI r)), some (vI (nI v))]) (st' := [vI (S 8 + S (177 + 3 * r + 2)), vI 2, vI (nI k), vR 800]) rfl ?_
  refine gW_eq (st' := [vI (S 8 + S (177 + 3 * r + 2)), vI (nI 2), vI (nI k), vR 800]) rfl (by rw [(show (2 : Int32) = nI 2 from rfl)]) rfl ?_
  refine g_cV0 rfl (args := [vR 800, vI (nI k), vI (nI 2), vI (S 8 + S (177 + 3 * r + 2))]) (rest := []) rfl rfl rfl (s_205 (d := d + 7) (by omega) (by omega)) ?_
  refine g_setv (fun s4 es4 => ?_)
  have hSs4 : s4 801 = upd (upd (upd S (113 + 6 * k) (-1)) (113 + 6 * k + 1) (nI (otN S r v))) (113 + 6 * k + 2) (S 8 + S (177 + 3 * r + 2)) := by rw [es4, mu_row, hSs3]
  refine g_pure 3 (i' := 81) (lv' := [some (vR 800), some (vI (nI k)), some (vI (nI r)), some (vI (nI v))]) (st' := [vI 2, vI (nI k), vR 800]) rfl ?_
  refine gW_eq (st' := [vI (nI 2), vI (nI k), vR 800]) rfl (by rw [(show (2 : Int32) = nI 2 from rfl)]) rfl ?_
  refine g_cV1 rfl (args := [vR 800, vI (nI k), vI (nI 2)]) (rest := []) rfl rfl rfl (s_238 (d := d + 7) hSs4 (by omega) (by omega)) ?_
  refine gW_eq (st' := [vI (S 8 + S (177 + 3 * r + 2))]) rfl (by rw [show (upd (upd (upd S (113 + 6 * k) (-1)) (113 + 6 * k + 1) (nI (otN S r v))) (113 + 6 * k + 2) (S 8 + S (177 + 3 * r + 2))) (113 + 6 * k + 2) = (S 8 + S (177 + 3 * r + 2)) from (show (upd (upd (upd S (113 + 6 * k) (-1)) (113 + 6 * k + 1) (nI (otN S r v))) (113 + 6 * k + 2) (S 8 + S (177 + 3 * r + 2))) (113 + 6 * k + 2) = (S 8 + S (177 + 3 * r + 2)) from (rfl).trans upd_self)]) rfl ?_
  refine g_iret rfl ?_
  exact o1 s1 es1 s3 es3 s4 es4 hSs4

theorem c_go {X : Nat × (Nat → Int32)} {d : Nat} {p : Nat → Nat} {sg : Mg} {B : Nat} {A : AS} (hI : RI B A) (hR : RC A p sg) {x y : Int32} : gF X (d + 7) 152 [vR 0, vI x, vI y] p sg (cR A (A.act (goT A.S x.toNatClampNeg y.toNatClampNeg)) (fun c => if c = 1 then 2 else 4) (goR A.S x y) sg) := by
  have b0 := hI.1.b0; have b1 := hI.1.b1; have b3 := hI.1.b3
  refine g_in (cd := k_152) (nL := 6) (rc := 12) rfl (g_A (a := 0) (kd := 0) (n := 11) rfl (by decide)) (g_c1 rfl) (b_152_0 hI.1 hR.2.1.1 hR.2.1.2.1 (fun k ek hk r er hr => ?_) (fun k ek hk h => ?_) (fun h => ?_))
  · subst ek er
    have hcv : goR A.S (nI k) (nI r) = if goOK A.S k r then (0, A.S 8 + A.S (177 + 3 * r + 2)) else (2, 0) := by
      unfold goR
      rw [if_pos ((okx_nI (by omega)).mpr (by omega)), if_pos ((okx_nI (by omega)).mpr (by omega)), nI_clamp (by omega), nI_clamp (by omega)]
    rw [hcv]
    simp (disch := omega) only [nI_clamp]
    rcases (hI.1.per hk).1 with hw | hw
    · have hne : ¬ A.S (113 + 6 * k) = -1 := by rw [hw.1.1]; exact nI_m1 (by have := hw.1.2; omega)
      refine b_152_v hI.1 hR.2.1.1 hR.2.1.2.1 (hR.W hI) (by omega) (by omega) hk hr hw.1.2 hw.1.1 (fun _ h => ?_) (fun hO _ s4 f4 hb => ?_) (fun hO _ s4 f4 hb => ?_) (fun hO => ?_)
      · exact absurd h (nI_m1 (by have := otN_lt hI.1 hr (sn A.S (113 + 6 * k)); omega))
      · rw [if_pos ⟨hne, hO, hb⟩]
        have hR4 := hR.sc hI f4
        refine g_pure 1 (i' := 41) (lv' := [some (vR 0), some (vI (nI k)), some (vI (nI r)), some (vR 250), some (vI (nI (sn A.S (113 + 6 * k)))), some (vI (nI (otN A.S r (sn A.S (113 + 6 * k)))))]) (st' := [vR 0]) rfl ?_
        refine g_calV rfl (args := [vR 0]) (rest := []) rfl rfl (Nat.zero_le _) (s_153r (d := d + 1) hI hR4) (fun q hq => ?_)
        obtain ⟨s5, h5, rfl⟩ := hq
        refine gK_0 (b_152_e hI.1 (h5.L hI hR4) (h5.D hI hR4) (by omega) (by omega) (by have := otN_lt hI.1 hr (sn A.S (113 + 6 * k)); omega) hk hr (fun s6 e6 s7 e7 s8 e8 g1 g2 => ?_))
        refine h5.act hI hR4 (fun c c1 c2 c3 c4 c5 => ?_) ⟨g1, g2⟩ (goT_inv hI hk hr hne).2.2 (scE.hi f4)
        rw [e8, mu_ne (by omega), e7, mu_ne (by omega), e6, mu_ne (by omega)]
      · refine cR_x (hR.sc hI f4) (scE.hi f4) (c := 1) ?_ rfl
        rw [if_neg (fun h => h.2.2 hb)]
      · refine cR_x hR (fun _ _ => rfl) (c := 1) ?_ rfl
        rw [if_neg (fun h => hO h.2.1)]
    · refine b_152_x hI.1 hR.2.1.1 hR.2.1.2.1 (by omega) (by omega) hk hr hw.1 ?_
      refine cR_x hR (fun _ _ => rfl) (c := 1) ?_ rfl
      rw [if_neg (fun h => h.1 hw.1)]
  · subst ek
    refine cR_x hR (fun _ _ => rfl) (c := 0) ?_ rfl
    unfold goR
    rw [if_pos ((okx_nI (by omega)).mpr (by omega)), if_neg h]
  · refine cR_x hR (fun _ _ => rfl) (c := 0) ?_ rfl
    unfold goR
    rw [if_neg h]
theorem m_go {X : Nat × (Nat → Int32)} {d : Nat} {p : Nat → Nat} {sg : Mg} {B : Nat} {A : AS} (hI : RI B A) (hR : RM A sg) {x y : Int32} : gF X (d + 9) 252 [vR 800, vI x, vI y] p sg (mR A (A.act (goT A.S x.toNatClampNeg y.toNatClampNeg)) (goR A.S x y) p sg) := by
  have b0 := hI.1.b0; have b1 := hI.1.b1; have b3 := hI.1.b3
  refine g_in (cd := k_252) (nL := 4) (rc := 13) rfl (g_A (a := 800) (kd := 0) (n := 12) rfl (by decide)) (g_c1 rfl) (b_252_0 hI.1 hR.1 (fun s1 f1 h s3 f3 => ?_) (fun s1 f1 k ek hk r er hr => ?_) (fun s1 f1 k ek hk h s3 f3 => ?_))
  · refine mR_x ((hR.th f1).th f3) (fun c hc => by rw [f3, f1, up_hi hc, up_hi hc]) (c := 0) (by rw [f3, mu_self]) ?_
    unfold goR
    rw [if_neg h]
  · subst ek er
    have hcv : goR A.S (nI k) (nI r) = if goOK A.S k r then (0, A.S 8 + A.S (177 + 3 * r + 2)) else (2, 0) := by
      unfold goR
      rw [if_pos ((okx_nI (by omega)).mpr (by omega)), if_pos ((okx_nI (by omega)).mpr (by omega)), nI_clamp (by omega), nI_clamp (by omega)]
    rw [hcv]
    simp (disch := omega) only [nI_clamp]
    have hR1 := hR.th f1
    have hh : ∀ c, c < 800 ∨ 900 ≤ c → s1 c = sg c := fun c hc => by rw [f1, up_hi hc]
    have h0 : s1 800 0 = 0 := by rw [f1, mu_self]
    rcases (hI.1.per hk).1 with hw | hw
    · have hne : ¬ A.S (113 + 6 * k) = -1 := by rw [hw.1.1]; exact nI_m1 (by have := hw.1.2; omega)
      refine b_252_v hI.1 hR1.1 hI.2.2.1 (by omega) (by omega) hk hr hw.1.2 hw.1.1 (fun hO s5 f5 hb => ?_) (fun hO s5 f5 hb s8 f8 => ?_) (fun hO s11 f11 => ?_)
      · rw [if_pos ⟨hne, hO, hb⟩]
        have hR5 : RM A s5 := by
          obtain ⟨f, rfl⟩ := f5
          exact hR1.ext (fun c hc => va_up_ne _ _ (by omega)) (fun k hk => congrFun (va_up_ne _ _ (by decide)) k)
        have hh5 : ∀ c, c < 800 ∨ 900 ≤ c → s5 c = sg c := fun c hc => by obtain ⟨f, rfl⟩ := f5; rw [va_up_ne _ _ (by omega), hh c hc]
        have h05 : s5 800 0 = 0 := by obtain ⟨f, rfl⟩ := f5; rw [va_up_ne _ _ (by decide), h0]
        refine g_pure 1 (i' := 53) (lv' := [some (vR 800), some (vI (nI k)), some (vI (nI r)), some (vI (nI (sn A.S (113 + 6 * k))))]) (st' := [vR 800]) rfl ?_
        refine g_calV rfl (args := [vR 800]) (rest := []) rfl rfl (Nat.zero_le _) (s_255r (d := d + 7) hI hR5) (fun q hq => ?_)
        subst hq
        refine gK_0 (b_252_e (S := A.S) hI.1 (rmM_S hR5) (by omega) (by omega) (by have := hw.1.2; omega) hk hr hO (fun s6 e6 s7 e7 s8 e8 g1 => ?_))
        refine rmM_act hI hR5 (fun c c1 c2 c3 => ?_) g1 hh5 h05
        rw [e8, mu_ne c1, e7, mu_ne c1, e6, mu_ne c1]
      · refine mR_x (s := s8) ?_ (fun c hc => ?_) (c := 1) (by rw [f8, mu_self]) ?_
        · obtain ⟨f, rfl⟩ := f5
          exact (show RM A (va_up s1 807 f) from hR1.ext (fun c hc => va_up_ne _ _ (by omega)) (fun k hk => congrFun (va_up_ne _ _ (by decide)) k)).th f8
        · obtain ⟨f, rfl⟩ := f5; rw [f8, up_hi hc, va_up_ne _ _ (by omega), hh c hc]
        · rw [if_neg (fun h => h.2.2 hb)]
      · refine mR_x (hR1.th f11) (fun c hc => by rw [f11, up_hi hc, hh c hc]) (c := 1) (by rw [f11, mu_self]) ?_
        rw [if_neg (fun h => hO h.2.1)]
    · refine b_252_x hI.1 hR1.1 (by omega) (by omega) hk hr hw.1 (fun s2 f2 => ?_)
      refine mR_x (hR1.th f2) (fun c hc => by rw [f2, up_hi hc, hh c hc]) (c := 1) (by rw [f2, mu_self]) ?_
      rw [if_neg (fun h => h.1 hw.1)]
  · subst ek
    refine mR_x ((hR.th f1).th f3) (fun c hc => by rw [f3, f1, up_hi hc, up_hi hc]) (c := 0) (by rw [f3, mu_self]) ?_
    unfold goR
    rw [if_pos ((okx_nI (by omega)).mpr (by omega)), if_neg h]
