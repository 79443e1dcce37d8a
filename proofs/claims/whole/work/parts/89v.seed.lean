/-! SEED, COUNT, IMAGE, BACK as operations (made by wip/whole/gen89v.py) -/
theorem cwA.cells {sg s : Mg} {S : Nat → Int32} (h : cwA 200 sg S) (e : ∀ c, 208 ≤ c → c ≤ 212 → s c = sg c) : cwA 200 s S := by
  unfold cwA
  rw [e (200 + 8) (by decide) (by decide), e (200 + 9) (by decide) (by decide), e (200 + 10) (by decide) (by decide), e (200 + 11) (by decide) (by decide), e (200 + 12) (by decide) (by decide)]
  exact h
def seedA (A : AS) (x : Int32) : AS := (upd A.S 16 x, A.2)
theorem upd16 {S : Nat → Int32} {x : Int32} {i : Nat} (h : ¬ i = 16) : upd S 16 x i = S i := if_neg h
theorem RI.seed {B : Nat} {A : AS} (hI : RI B A) {x : Int32} : RI B (seedA A x) := by
  obtain ⟨a1, a2, a3, a4, a5, a6, a7, a8⟩ := hI
  refine ⟨a1.ext (fun i hi => upd16 (fun e => hi (by unfold freeI; omega))), fun k hk hx => ?_, a3.ext (fun i hi => upd16 (by omega)), a4, fun i hi => ⟨(a5 i hi).1, (a5 i hi).2.1, fun j hj => ?_⟩, a6, a7, a8⟩
  · have e : ∀ i, ¬ i = 16 → sn (upd A.S 16 x) i = sn A.S i := fun i hi => by unfold sn; rw [upd16 hi]
    show sn (upd A.S 16 x) 8 < sn (upd A.S 16 x) (113 + 6 * k + 2)
    rw [e 8 (by decide), e (113 + 6 * k + 2) (by omega)]
    have hk : k < sn (upd A.S 16 x) 1 := hk
    have hx : upd A.S 16 x (113 + 6 * k) = -1 := hx
    rw [e 1 (by decide)] at hk
    rw [upd16 (by omega)] at hx
    exact a2 k hk hx
  · have : ¬ j = 16 := fun e => hj (by subst e; exact ⟨⟨by decide, by decide, by decide, by decide, by decide, Or.inl (by decide)⟩, by decide, by decide⟩)
    show A.ac i j = upd A.S 16 x j
    rw [upd16 this]
    exact (a5 i hi).2.2 j hj
theorem c_seedR {X : Nat × (Nat → Int32)} {d : Nat} {p : Nat → Nat} {sg : Mg} {B : Nat} {A : AS} (hI : RI B A) (hR : RC A p sg) {x : Int32} : gF X (d + 1) 129 [vR 0, vI x] p sg (cR A (seedA A x) (fun _ => 0) (0, A.S 16) sg) :=
  gF_mono (c_seed hI.1 hR.2.1.1 hR.2.1.2.1) (fun r hr => by
    obtain ⟨s, ⟨he, hL, hD⟩, hr⟩ := hr
    have he : ∀ c, c ≠ 250 → s c = sg c := fun c hc => he c (by simpa using hc)
    rw [hr]
    obtain ⟨r1, r2, r3, r4, r5, r6, r7, r8, r9, r10⟩ := hR
    refine cR_v (A' := seedA A x) ⟨r1, ⟨hL, hD, ?_⟩, ?_, fun i hi => ?_, ?_, fun hf => ?_, ?_, fun i hi => ?_, ?_, ?_⟩ (fun c hc => he c (by omega)) rfl
    · exact (r2.2.2.cells (fun c c1 c2 => he c (by omega))).ext (fun i hi => upd16 (by omega))
    · rw [he 0 (by decide)]; exact r3
    · have := r1.1 i (by have := hI.2.2.2.1; have hi : i < A.n := hi; omega)
      exact cwL.eqc (r4 i hi) (fun c c1 c2 => he c (by omega))
    · rw [he 0 (by decide)]; exact r5
    · exact (r6 hf).eqc (fun c c1 c2 c3 => he c (by omega))
    · rw [he 1 (by decide)]; exact r7
    · rw [he 2 (by decide)]; exact r8 i hi
    · rw [he 1 (by decide)]; exact r9
    · rw [he 23 (by decide)]; exact r10)
theorem m_seedR {X : Nat × (Nat → Int32)} {d : Nat} {p : Nat → Nat} {sg : Mg} {B : Nat} {A : AS} (hI : RI B A) (hR : RM A sg) {x : Int32} : gF X (d + 1) 311 [vR 800, vI x] p sg (mR A (seedA A x) (0, A.S 16) p sg) :=
  gF_mono (m_seed hI.1 hR.1) (fun r hr => by
    rw [hr]
    obtain ⟨r1, r2, r3, r4, r5, r6, r7, r8, r9⟩ := hR
    refine mR_v (A' := seedA A x) ⟨?_, ?_, fun i j hi hj => ?_, ?_, fun hf j hj => ?_, ?_, fun i hi => ?_, ?_, ?_⟩ (fun c hc => by rw [mu_ne (by omega), mu_ne (by omega)]) (by rw [mu_ne (by decide), mu_self]) rfl
    · rw [mu_row, mu_ne (by decide), r1]; rfl
    · rw [mu_ne (by decide), mu_idx (by decide)]; exact r2
    · rw [mu_ne (by decide), mu_ne (by decide)]; exact r3 i j hi hj
    · rw [mu_ne (by decide), mu_idx (by decide)]; exact r4
    · rw [mu_ne (by decide), mu_ne (by decide)]; exact r5 hf j hj
    · rw [mu_ne (by decide), mu_idx (by decide)]; exact r6
    · rw [mu_ne (by decide), mu_ne (by decide)]; exact r7 i hi
    · rw [mu_ne (by decide), mu_idx (by decide)]; exact r8
    · rw [mu_ne (by decide), mu_ne (by decide)]; exact r9)
def countR (A : AS) (x : Int32) : Int32 := countV A.S (if A.S 7 = 1 then A.S 709 else -1) (nI A.n) x
theorem c_countR {X : Nat × (Nat → Int32)} {d : Nat} {p : Nat → Nat} {sg : Mg} {B : Nat} {A : AS} (hI : RI B A) (hR : RC A p sg) {x : Int32} : gF X (d + 4) 135 [vR 0, vI x] p sg (cR A A (fun _ => 0) (0, countR A x) sg) :=
  gF_mono (c_count hI.1 hR.2.1.1 hR.2.1.2.1) (fun r hr => by
    rw [hr, show sg 208 6 = _ from hR.2.1.2.2.1, hR.2.2.1]
    exact cR_v hR (fun _ _ => rfl) rfl)
theorem m_countR {X : Nat × (Nat → Int32)} {d : Nat} {p : Nat → Nat} {sg : Mg} {B : Nat} {A : AS} (hI : RI B A) (hR : RM A sg) {x : Int32} : gF X (d + 4) 312 [vR 800, vI x] p sg (mR A A (0, countR A x) p sg) :=
  gF_mono (m_count hI.1 hR.1) (fun r hr => by
    rw [hr, hR.2.1]
    exact mR_v (hR.th rfl) (fun c hc => up_hi hc) mu_self rfl)
