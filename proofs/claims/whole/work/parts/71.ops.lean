/-! OPERATIONS, for both -/
theorem cwW.eqc {w : Nat} {sg s : Mg} {S : Nat → Int32} (h : cwW w sg S) (e : ∀ c, w + 2 ≤ c → c < w + 70 → c ≠ w + 13 → s c = sg c) : cwW w s S :=
  ⟨cwL.eqc h.1 (fun c c1 c2 => e c (by omega) (by omega) (by omega)), cwD.eqc h.2.1 (fun c c1 => e c (by omega) (by omega) (by omega)), cwA.eqx (m := []) h.2.2 (fun c c1 c2 => e c (by omega) (by omega) (by omega))⟩
/-- the class's cells that count -/
def relC (c : Nat) : Prop := c ≤ 2 ∨ c = 23 ∨ (202 ≤ c ∧ c < 270 ∧ c ≠ 213) ∨ (400 ≤ c ∧ c < 470) ∨ (500 ≤ c ∧ c < 740)
theorem RC.ext {A : AS} {p : Nat → Nat} {sg s : Mg} (hR : RC A p sg) (n12 : A.n ≤ 12) (e : ∀ c, relC c → s c = sg c) : RC A p s := by
  obtain ⟨r1, r2, r3, r4, r5, r6, r7, r8, r9, r10⟩ := hR
  unfold relC at e
  refine ⟨r1, r2.eqc (fun c c1 c2 c3 => e c (by omega)), ?_, fun i hi => ?_, ?_, fun hf => (r6 hf).eqc (fun c c1 c2 c3 => e c (by omega)), ?_, fun i hi => ?_, ?_, ?_⟩
  · rw [e 0 (by omega)]; exact r3
  · have := r1.1 i (by omega)
    exact cwL.eqc (r4 i hi) (fun c c1 c2 => e c (by omega))
  · rw [e 0 (by omega)]; exact r5
  · rw [e 1 (by omega)]; exact r7
  · rw [e 2 (by omega)]; exact r8 i hi
  · rw [e 1 (by omega)]; exact r9
  · rw [e 23 (by omega)]; exact r10
theorem RM.ext {A : AS} {sg s : Mg} (hR : RM A sg) (e : ∀ c, c = 801 ∨ c = 802 ∨ c = 804 ∨ c = 805 ∨ c = 815 → s c = sg c) (e2 : ∀ k, k = 5 ∨ k = 6 ∨ k = 8 ∨ k = 13 → s 800 k = sg 800 k) : RM A s := by
  obtain ⟨r1, r2, r3, r4, r5, r6, r7, r8, r9⟩ := hR
  refine ⟨?_, ?_, fun i j hi hj => ?_, ?_, fun hf j hj => ?_, ?_, fun i hi => ?_, ?_, ?_⟩
  · rw [e 801 (by omega)]; exact r1
  · rw [e2 6 (by omega)]; exact r2
  · rw [e 804 (by omega)]; exact r3 i j hi hj
  · rw [e2 5 (by omega)]; exact r4
  · rw [e 802 (by omega)]; exact r5 hf j hj
  · rw [e2 8 (by omega)]; exact r6
  · rw [e 805 (by omega)]; exact r7 i hi
  · rw [e2 13 (by omega)]; exact r8
  · rw [e 815 (by omega)]; exact r9
/-- what an operation of the class does: answers, or throws -/
def cR (A A' : AS) (ex : Nat → Nat) (cv : Nat × Int32) (sg : Mg) (r : am_R) : Prop := ∃ p' s, (∀ c, 800 ≤ c → s c = sg c) ∧ ((cv.1 = 0 ∧ RC A' p' s ∧ r = gRv p' s cv.2) ∨ (¬ cv.1 = 0 ∧ RC A p' s ∧ r = gRx p' s (ex cv.1)))
/-- what an operation of the reference does -/
def mR (A A' : AS) (cv : Nat × Int32) (p : Nat → Nat) (sg : Mg) (r : am_R) : Prop := ∃ s v, (∀ c, c < 800 ∨ 900 ≤ c → s c = sg c) ∧ s 800 0 = nI cv.1 ∧ (cv.1 = 0 → v = cv.2) ∧ RM (if cv.1 = 0 then A' else A) s ∧ r = gRv p s v
/-- asks -/
theorem cR_ask {A : AS} {p : Nat → Nat} {sg : Mg} {ex : Nat → Nat} {cv : Nat × Int32} {r : am_R} (hR : RC A p sg) (h : oC p sg ex cv r) : cR A A ex cv sg r := by
  unfold oC at h
  refine ⟨p, sg, fun _ _ => rfl, ?_⟩
  by_cases c : cv.1 = 0
  · rw [if_pos c] at h
    exact Or.inl ⟨c, hR, h⟩
  · rw [if_neg c] at h
    exact Or.inr ⟨c, hR, h⟩
theorem RM.mu0 {A : AS} {sg : Mg} (hR : RM A sg) (x : Int32) : RM A (mu sg 800 0 x) := hR.ext (fun c hc => mu_ne (by omega)) (fun k hk => mu_idx (by omega))
theorem mR_ask {A : AS} {p : Nat → Nat} {sg : Mg} {cv : Nat × Int32} {r : am_R} (hR : RM A sg) (h : oM p sg cv r) : mR A A cv p sg r := by
  obtain ⟨v, h1, h2⟩ := h
  refine ⟨_, v, fun c hc => mu_ne (by omega), mu_self, h1, ?_, h2⟩
  split <;> exact hR.mu0 _
/-- the class has remembered -/
def Rm (A : AS) (p : Nat → Nat) (sg s : Mg) : Prop := (∀ c, c ≠ 0 → c < 500 + 20 * rem_p p A.n (min A.n 11) ∨ 500 + 20 * rem_p p A.n (min A.n 11) + 18 ≤ c → s c = sg c) ∧ (∀ k, k ≠ 11 → s 0 k = sg 0 k) ∧ s 0 11 = nI (min (A.n + 1) 12) ∧ ∀ S, sn S 14 ≤ 100 → cwL 250 sg S → cwL (500 + 20 * rem_p p A.n (min A.n 11)) s S
theorem s_153r {X : Nat × (Nat → Int32)} {d : Nat} {p : Nat → Nat} {sg : Mg} {B : Nat} {A : AS} (hI : RI B A) (hR : RC A p sg) : gF X (d + 5) 153 [vR 0] p sg (fun r => ∃ s, Rm A p sg s ∧ r = gR0 (rem_p p A.n) s) := s_153 hR.1 hI.2.2.2.1 hR.2.2.1
theorem Rm.lo {B : Nat} {A : AS} {p : Nat → Nat} {sg s : Mg} (h : Rm A p sg s) (hI : RI B A) (hR : RC A p sg) : ∀ c, c ≠ 0 → c < 500 ∨ 740 ≤ c → s c = sg c := by
  intro c h0 hc
  have hp : okp (rem_p p A.n) := by
    unfold rem_p
    split
    · exact rotp_ok hR.1
    · exact hR.1
  have hq := hp.1 (min A.n 11) (by omega)
  exact h.1 c h0 (by omega)
theorem Rm.L {B : Nat} {A : AS} {p : Nat → Nat} {sg s : Mg} (h : Rm A p sg s) (hI : RI B A) (hR : RC A p sg) : cwL 250 s A.S := cwL.eqc hR.2.1.1 (fun c c1 c2 => h.lo hI hR c (by omega) (by omega))
theorem Rm.D {B : Nat} {A : AS} {p : Nat → Nat} {sg s : Mg} (h : Rm A p sg s) (hI : RI B A) (hR : RC A p sg) : cwD 200 s A.S := cwD.eqc hR.2.1.2.1 (fun c c1 => h.lo hI hR c (by omega) (by omega))
theorem RC.W {B : Nat} {A : AS} {p : Nat → Nat} {sg : Mg} (hR : RC A p sg) (hI : RI B A) : LW A.S sg := ⟨hI.2.2.1, hR.2.1.2.2⟩
theorem Rm.W {B : Nat} {A : AS} {p : Nat → Nat} {sg s : Mg} (h : Rm A p sg s) (hI : RI B A) (hR : RC A p sg) : LW A.S s := (hR.W hI).eqc (fun c c1 c2 => h.lo hI hR c (by omega) (by omega))
theorem Rm.act {B : Nat} {A : AS} {p : Nat → Nat} {sg s s' : Mg} (h : Rm A p sg s) (hI : RI B A) (hR : RC A p sg) {S' : Nat → Int32} (hF : DF s s') (hC : CS s' S') (hk : kpL A.S S') {ex : Nat → Nat} {v : Int32} {sg0 : Mg} (h0 : ∀ c, 800 ≤ c → sg c = sg0 c) : cR A (A.act S') ex (0, v) sg0 (gRv (rem_p p A.n) s' v) :=
  ⟨_, s', fun c hc => by rw [hF c (by omega) (by omega) (by omega) (by omega) (by omega), h.lo hI hR c (by omega) (by omega), h0 c hc], Or.inl ⟨rfl, hR.act hI h.1 h.2.1 h.2.2.1 h.2.2.2 hF hC hk, rfl⟩⟩
/-- the reference has remembered -/
def rmM (A : AS) (sg : Mg) : Mg := va_up (mu sg 800 6 (nI (min (A.n + 1) 12))) 804 (actF sg A.n)
theorem s_255r {X : Nat × (Nat → Int32)} {d : Nat} {p : Nat → Nat} {sg : Mg} {B : Nat} {A : AS} (hI : RI B A) (hR : RM A sg) : gF X (d + 1) 255 [vR 800] p sg (fun r => r = gR0 p (rmM A sg)) := s_255 hI.2.2.2.1 hR.2.1
theorem rmM_ne {A : AS} {sg : Mg} {c : Nat} (h1 : c ≠ 800) (h2 : c ≠ 804) : rmM A sg c = sg c := by unfold rmM; rw [va_up_ne _ _ h2, mu_ne h1]
theorem rmM_S {A : AS} {sg : Mg} (hR : RM A sg) : rmM A sg 801 = A.S := (rmM_ne (by decide) (by decide)).trans hR.1
theorem rmM_act {B : Nat} {A : AS} {p : Nat → Nat} {sg s' sg0 : Mg} (hI : RI B A) (hR : RM A sg) {S' : Nat → Int32} (hF : FR (rmM A sg) s') (h5 : s' 801 = S') {v : Int32} (h0 : ∀ c, c < 800 ∨ 900 ≤ c → sg c = sg0 c) (ht : sg 800 0 = 0) : mR A (A.act S') (0, v) p sg0 (gRv p s' v) := by
  have e8 : s' 800 = mu sg 800 6 (nI (min (A.n + 1) 12)) 800 := by rw [hF 800 (by decide) (by decide) (by decide)]; unfold rmM; rw [va_up_ne _ _ (by decide)]
  refine ⟨s', v, fun c hc => ?_, ?_, fun _ => rfl, ?_, rfl⟩
  · rw [hF c (by omega) (by omega) (by omega), rmM_ne (by omega) (by omega), h0 c hc]
  · rw [e8, mu_idx (by decide)]; exact ht
  · rw [if_pos rfl]
    refine hR.act hI (fun c c1 c2 c3 c4 c5 => ?_) (fun k k0 k6 => ?_) ?_ ?_ h5
    · rw [hF c c2 c4 c5, rmM_ne c1 c3]
    · rw [e8, mu_idx k6]
    · rw [e8, mu_self]
    · rw [hF 804 (by decide) (by decide) (by decide)]; unfold rmM; rw [va_up_self]
