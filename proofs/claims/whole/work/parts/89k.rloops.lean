/-! PLAN: the loops of the search of the reference (made by wip/whole/gen89k.py) -/
theorem cnM_at {a n i : Nat} {s : Mg} {C : Nat → Bool} (h : cnM a n s C) (hi : i < n) : s a i = (if C i = true then 1 else 0) := h i hi
theorem l_305_53 {X : Nat × (Nat → Int32)} {d : Nat} {p : Nat → Nat} {sg : Mg} {B : Nat} {S : Nat → Int32} (hI : Inv B S) (hS : sg 801 = S) (hA : InvA S) {Q : am_R → Prop} {k np O : Nat} {pk : Nat → Nat} {al : Int32} (hk : PK S O np pk) (hn : np ≤ 5) (hk1 : k < sn S 1) (h31 : 2 ^ np - 1 ≤ 31) (h0 : 0 < 2 ^ np - 1) {t v : Nat} {C : Nat → Bool} (hq : pkQ np pk sg) (hC : cnM 818 77952 sg C) (ht : t ≤ 400) (hv : v < sn S 0) (hP : pvI S k np pk al C t v 0) {w7 : Option AV}
    (xr : ∀ m t, SP sg m → t ≤ 400 → PFR S k np pk (alF al) (sn S 8 + t) → (∀ t2, t2 < t → ¬ PFR S k np pk (alF al) (sn S 8 + t2)) → Q (gRv p m (nI t)))
    (x : ∀ m C w6 w7, SP sg m → cnM 818 77952 m C → pvI S k np pk al C t (v + 1) 0 → gW X (d + 9) k_305 47 [some (vR 800), some (vI (nI k)), some (vI al), some (vI (nI (2 ^ np - 1))), some (vI (nI t)), some (vI (nI (v + 1))), w6, w7] [] p m Q) :
    gW X (d + 9) k_305 53 [some (vR 800), some (vI (nI k)), some (vI al), some (vI (nI (2 ^ np - 1))), some (vI (nI t)), some (vI (nI v)), some (vI (nI 0)), w7] [] p sg Q := by
  have b0 := hI.b0; have b1 := hI.b1; have b8 := hI.b8
  have key := g_upI (P := fun s => ∀ m C w7, SP sg m → cnM 818 77952 m C → pvI S k np pk al C t v s → gW X (d + 9) k_305 53 [some (vR 800), some (vI (nI k)), some (vI al), some (vI (nI (2 ^ np - 1))), some (vI (nI t)), some (vI (nI v)), some (vI (nI s)), w7] [] p m Q) (I := fun _ => True) (n := 2 ^ np - 1) (a := 0) (by omega) trivial ?_ ?_
  · exact key sg C w7 (SP.rf _) hC hP
  · intro s _ hs _ ih m C w7 hm hC hP
    have ih := ih trivial
    refine b_305_53 hI (hm.S hS) (by omega) h31 ht (by omega) (by omega) (fun _ => cnM_at hC (by omega)) (fun h => by omega) (fun _ hc => ?_) (fun _ hc => ?_)
    · refine l_305_67 hI (hm.S hS) hA hk hn hk1 h31 (hq.sp hm) hC ht hv hs hP hc (fun m2 g1 g2 => xr m2 t (hm.tr g1) ht g2 (fun t2 h2 => hP.none hI hk1 h0 h2)) (fun m2 C2 g1 g2 g3 => ih m2 C2 _ (hm.tr g1) g2 g3)
    · exact ih m C w7 hm hC (hP.next (fun h => absurd h hc))
  · intro _ m C w7 hm hC hP
    refine b_305_53 (C := C) hI (hm.S hS) (by omega) h31 ht (by omega) h31 (fun h => absurd h (Nat.lt_irrefl _)) (fun _ => x m C _ _ hm hC hP.nextv) (fun h => by omega) (fun h => by omega)
theorem l_305_47 {X : Nat × (Nat → Int32)} {d : Nat} {p : Nat → Nat} {sg : Mg} {B : Nat} {S : Nat → Int32} (hI : Inv B S) (hS : sg 801 = S) (hA : InvA S) {Q : am_R → Prop} {k np O : Nat} {pk : Nat → Nat} {al : Int32} (hk : PK S O np pk) (hn : np ≤ 5) (hk1 : k < sn S 1) (h31 : 2 ^ np - 1 ≤ 31) (h0 : 0 < 2 ^ np - 1) {t : Nat} {C : Nat → Bool} (hq : pkQ np pk sg) (hC : cnM 818 77952 sg C) (ht : t ≤ 400) (hP : pvI S k np pk al C t 0 0) {w6 w7 : Option AV}
    (xr : ∀ m t, SP sg m → t ≤ 400 → PFR S k np pk (alF al) (sn S 8 + t) → (∀ t2, t2 < t → ¬ PFR S k np pk (alF al) (sn S 8 + t2)) → Q (gRv p m (nI t)))
    (x : ∀ m C w5 w6 w7, SP sg m → cnM 818 77952 m C → pvI S k np pk al C (t + 1) 0 0 → gW X (d + 9) k_305 42 [some (vR 800), some (vI (nI k)), some (vI al), some (vI (nI (2 ^ np - 1))), some (vI (nI (t + 1))), w5, w6, w7] [] p m Q) :
    gW X (d + 9) k_305 47 [some (vR 800), some (vI (nI k)), some (vI al), some (vI (nI (2 ^ np - 1))), some (vI (nI t)), some (vI (nI 0)), w6, w7] [] p sg Q := by
  have b0 := hI.b0; have b1 := hI.b1; have b8 := hI.b8
  have key := g_upI (P := fun v => ∀ m C w6 w7, SP sg m → cnM 818 77952 m C → pvI S k np pk al C t v 0 → gW X (d + 9) k_305 47 [some (vR 800), some (vI (nI k)), some (vI al), some (vI (nI (2 ^ np - 1))), some (vI (nI t)), some (vI (nI v)), w6, w7] [] p m Q) (I := fun _ => True) (n := sn S 0) (a := 0) (by omega) trivial ?_ ?_
  · exact key sg C w6 w7 (SP.rf _) hC hP
  · intro v _ hv _ ih m C w6 w7 hm hC hP
    have ih := ih trivial
    refine b_305_47 hI (hm.S hS) (by omega) h31 ht (by omega) (fun h => by omega) (fun _ => ?_)
    exact l_305_53 hI (hm.S hS) hA hk hn hk1 h31 h0 (hq.sp hm) hC ht hv hP (fun m2 t2 g1 g2 g3 g4 => xr m2 t2 (hm.tr g1) g2 g3 g4) (fun m2 C2 w6 w7 g1 g2 g3 => ih m2 C2 w6 w7 (hm.tr g1) g2 g3)
  · intro _ m C w6 w7 hm hC hP
    exact b_305_47 hI (hm.S hS) (by omega) h31 ht (by omega) (fun _ => x m C _ _ _ hm hC hP.nextt) (fun h => by omega)
noncomputable def pbP (S : Nat → Int32) (k np : Nat) (pk : Nat → Nat) (al : Int32) (t : Nat) : Bool := @decide (PFR S k np pk (alF al) (sn S 8 + t)) (Classical.propDecidable _)
theorem pbP_t {S : Nat → Int32} {k np t : Nat} {pk : Nat → Nat} {al : Int32} : pbP S k np pk al t = true ↔ PFR S k np pk (alF al) (sn S 8 + t) := by unfold pbP; exact @decide_eq_true_iff _ (Classical.propDecidable _)
theorem pbP_f {S : Nat → Int32} {k np t : Nat} {pk : Nat → Nat} {al : Int32} : pbP S k np pk al t = false ↔ ¬ PFR S k np pk (alF al) (sn S 8 + t) := by
  rw [← pbP_t]
  cases pbP S k np pk al t <;> simp
/-- the least number of dawns, as the reference finds it -/
noncomputable def pbT (S : Nat → Int32) (k np : Nat) (pk : Nat → Nat) (al : Int32) : Nat := fnd (pbP S k np pk al) 401 0
theorem pbT_at {S : Nat → Int32} {k np u : Nat} {pk : Nat → Nat} {al : Int32} (h : u ≤ 400) (hP : pbP S k np pk al u = true) (hn : ∀ t, t < u → pbP S k np pk al t = false) : pbT S k np pk al = u := fnd_eq (Nat.zero_le _) (by omega) hP (fun j _ hj => hn j hj)
theorem pbT_no {S : Nat → Int32} {k np : Nat} {pk : Nat → Nat} {al : Int32} (hn : ∀ t, t ≤ 400 → pbP S k np pk al t = false) : ¬ pbT S k np pk al < 401 := fun h => by
  have h2 := (fnd_spec (pbP S k np pk al) 401 0).2.2.2 (by unfold pbT at h; omega)
  unfold pbT at h
  rw [hn _ (by omega)] at h2
  cases h2
theorem s_305 {X : Nat × (Nat → Int32)} {d : Nat} {p : Nat → Nat} {sg : Mg} {B : Nat} {S : Nat → Int32} (hI : Inv B S) (hS : sg 801 = S) (hA : InvA S) {k np O : Nat} {pk : Nat → Nat} {al : Int32} (hk : PK S O np pk) (hn : np ≤ 5) (h1 : 0 < np) (hk1 : k < sn S 1) (hq : pkQ np pk sg) : gF X (d + 10) 305 [vR 800, vI (nI k), vI al] p sg (fun r => ∃ m, SP sg m ∧ r = gRv p m (if pbT S k np pk al < 401 then nI (pbT S k np pk al) else -1)) := by
  have b0 := hI.b0; have b1 := hI.b1; have b8 := hI.b8
  have p32 : 2 ^ np ≤ 32 := Nat.pow_le_pow_right (n := 2) (by decide) hn
  have p2 : 2 ≤ 2 ^ np := Nat.pow_le_pow_right (n := 2) (i := 1) (by decide) h1
  obtain ⟨m1, m2, m3, _⟩ := hm_ok hI hk1
  have xr : ∀ m t, SP sg m → t ≤ 400 → PFR S k np pk (alF al) (sn S 8 + t) → (∀ t2, t2 < t → ¬ PFR S k np pk (alF al) (sn S 8 + t2)) → ∃ m2, SP sg m2 ∧ gRv p m (nI t) = gRv p m2 (if pbT S k np pk al < 401 then nI (pbT S k np pk al) else -1) := fun m t g1 g2 g3 g4 => by
    have := pbT_at g2 (pbP_t.mpr g3) (fun t2 h2 => pbP_f.mpr (g4 t2 h2))
    exact ⟨m, g1, by rw [if_pos (by omega), this]⟩
  refine g_in (cd := k_305) (nL := 8) (rc := 13) rfl (g_A (a := 800) (kd := 0) (n := 12) rfl (by decide)) (g_c1 rfl) (b_305_0 hI hS (by omega) ?_)
  have key := g_upI (P := fun j => ∀ s, SP sg s → (∀ i, i < j → s 818 i = 0) → gW X (d + 9) k_305 2 [some (vR 800), some (vI (nI k)), some (vI al), some (vI (nI j)), none, none, none, none] [] p s (fun r => ∃ m, SP sg m ∧ r = gRv p m (if pbT S k np pk al < 401 then nI (pbT S k np pk al) else -1))) (I := fun _ => True) (n := 77952) (a := 0) (by omega) trivial ?_ ?_
  · exact key sg (SP.rf _) (fun i hi => absurd hi (Nat.not_lt_zero _))
  · intro j _ hj _ ih s hs hz
    refine b_305_2 hI (hs.S hS) (by omega) (by omega) (fun h => by omega) (fun _ s4 e4 => ?_)
    refine ih trivial s4 (hs.tr (fun c _ c2 => by rw [e4, mu_ne c2])) (fun i hi => ?_)
    by_cases e : i = j
    · subst e; rw [e4, mu_self]
    · rw [e4, mu_idx e]; exact hz i (by omega)
  · intro _ s hs hz
    have hC0 : cnM 818 77952 s (fun _ => false) := fun i hi => hz i hi
    refine b_305_2 hI (hs.S hS) (by omega) (by omega) (fun _ => ?_) (fun h => by omega)
    refine b_305_14 hI (hs.S hS) hn (hq.sp hs).1 (by omega) ?_
    refine gW_eq (lv' := [some (vR 800), some (vI (nI k)), some (vI al), some (vI (nI (2 ^ np - 1))), none, none, none, none]) (by rw [nI_shl1 (by omega), show (1 : Int32) = nI 1 from rfl, nI_sub (by omega)]) rfl rfl ?_
    refine b_305_21 hI (hs.S hS) (by omega) (by omega) hk1 (fun s3 e3 => ?_)
    have hs3 : SP sg s3 := hs.tr (fun c _ c2 => by rw [e3, mu_ne c2])
    have hC3 : cnM 818 77952 s3 (upB (fun _ => false) (192 * (stN S k - sn S 8) + 32 * hmN S k + 0)) := by rw [e3]; exact hC0.up
    have hP3 : pvI S k np pk al (upB (fun _ => false) (192 * (stN S k - sn S 8) + 32 * hmN S k + 0)) 0 0 0 := by
      refine ⟨fun t u s hu hs hc => ?_, upB_self, fun t' v' s' hv' hs' ht' hc => absurd ht' (by omega)⟩
      rcases upB_of hc with h | h
      · cases h
      · have e1 : t = stN S k - sn S 8 := by omega
        have e2 : u = hmN S k := by omega
        have e3 : s = 0 := by omega
        rw [e1, e2, e3, show sn S 8 + (stN S k - sn S 8) = stN S k by omega]
        exact ⟨by omega, PR.base⟩
    have key := g_upI (P := fun t => ∀ m C w5 w6 w7, SP sg m → cnM 818 77952 m C → pvI S k np pk al C t 0 0 → gW X (d + 9) k_305 42 [some (vR 800), some (vI (nI k)), some (vI al), some (vI (nI (2 ^ np - 1))), some (vI (nI t)), w5, w6, w7] [] p m (fun r => ∃ m, SP sg m ∧ r = gRv p m (if pbT S k np pk al < 401 then nI (pbT S k np pk al) else -1))) (I := fun _ => True) (n := 401) (a := 0) (by omega) trivial ?_ ?_
    · exact key s3 _ none none none hs3 hC3 hP3
    · intro t _ ht _ ih m C w5 w6 w7 hm hC hP
      refine b_305_42 hI (hm.S hS) (by omega) (by omega) (by omega) (fun h => by omega) (fun _ => ?_)
      exact l_305_47 hI (hm.S hS) hA hk hn hk1 (by omega) (by omega) (hq.sp hm) hC (by omega) hP (fun m2 t2 g1 g2 g3 g4 => xr m2 t2 (hm.tr g1) g2 g3 g4) (fun m2 C2 w5 w6 w7 g1 g2 g3 => ih trivial m2 C2 w5 w6 w7 (hm.tr g1) g2 g3)
    · intro _ m C w5 w6 w7 hm hC hP
      refine b_305_42 hI (hm.S hS) (by omega) (by omega) (by omega) (fun _ => ⟨m, hm, ?_⟩) (fun h => by omega)
      rw [if_neg (pbT_no (fun t ht => pbP_f.mpr (hP.none hI hk1 (by omega) (by omega))))]
