/-! THE LAW'S CASES: what comes behind, what the reference must give -/
/-- from the case's end on -/
def NX (X : Nat × (Nat → Int32)) (n B2 kc ks : Nat) (Q : am_R → Prop) : Prop := ∀ (A2 : AS) (p2 : Nat → Nat) (s2 : Mg) (kc2 ks2 : Nat) (o5 o6 : Option AV), RI B2 A2 → RC A2 p2 s2 → RM A2 s2 → kc2 ≤ kc + 1 → ks2 ≤ ks + 6 → hL X 41 k_352 [] K_42 (lwv n o5 o6) [] p2 s2 kc2 ks2 Q
def mOK (X : Nat × (Nat → Int32)) (B2 y2 : Nat) (as : List AV) (Af As : AS) (cv : Nat × Int32) (sg : Mg) : Prop := ∀ (p' : Nat → Nat) (s : Mg), (∀ c, 800 ≤ c → c ≠ 900 → s c = sg c) → RC (if cv.1 = 0 then As else Af) p' s → gF X 41 y2 (vR 800 :: as) p' s (fun r => ∃ s2 v A2, s2 900 0 = s 900 0 ∧ s2 800 0 = nI cv.1 ∧ (cv.1 = 0 → v = cv.2) ∧ r = gRv p' s2 v ∧ RI B2 A2 ∧ RC A2 p' s2 ∧ RM A2 s2)
theorem RM.hi {A : AS} {sg s : Mg} (h : RM A sg) (e : ∀ c, 800 ≤ c → c ≠ 900 → s c = sg c) : RM A s := h.ext (fun c hc => e c (by omega) (by omega)) (fun k _ => by rw [e 800 (by omega) (by omega)])
theorem RC.lo8 {A : AS} {p : Nat → Nat} {sg s : Mg} (h : RC A p sg) (hn : A.n ≤ 12) (e : ∀ c, c < 800 ∨ 900 ≤ c → s c = sg c) : RC A p s := h.ext hn (fun c hc => e c (by unfold relC at hc; omega))
theorem mOK.of {X : Nat × (Nat → Int32)} {B2 y2 : Nat} {as : List AV} {Af As A : AS} {cv : Nat × Int32} {sg : Mg} (hM : RM A sg) (h1 : ¬ cv.1 = 0 → RI B2 Af) (h2 : cv.1 = 0 → RI B2 As) (hm : ∀ (p' : Nat → Nat) (s : Mg), RM A s → gF X 41 y2 (vR 800 :: as) p' s (mR Af As cv p' s)) : mOK X B2 y2 as Af As cv sg := by
  intro p' s hs hC
  refine gF_mono (hm p' s (hM.hi hs)) (fun r hr => ?_)
  obtain ⟨s2, v, e, t, hv, hM2, rfl⟩ := hr
  have hI : RI B2 (if cv.1 = 0 then As else Af) := by
    by_cases c0 : cv.1 = 0
    · rw [if_pos c0]; exact h2 c0
    · rw [if_neg c0]; exact h1 c0
  exact ⟨s2, v, _, by rw [e 900 (by omega)], t, hv, rfl, hI, hC.lo8 hI.2.2.2.1 e, hM2⟩
theorem nI_z {k : Nat} (h : k ≤ 3) : nI k = 0 → k = 0 := by
  intro e
  rcases (show k = 0 ∨ k = 1 ∨ k = 2 ∨ k = 3 by omega) with rfl | rfl | rfl | rfl
  · rfl
  · exact absurd e (by decide)
  · exact absurd e (by decide)
  · exact absurd e (by decide)
section HB
variable {X : Nat × (Nat → Int32)} {d : Nat} {cd k : List am_CE} {hs : List (Nat × Nat × Nat)} {lv : List (Option AV)} {st : List AV} {p : Nat → Nat} {sg : Mg} {kc ks : Nat} {Q : am_R → Prop}
/-- 'a != 0' as a boolean -/
theorem h_bool {o1 o3 j2 j4 : Int} {p1 n1 t1 a1 p2 n2 c2 d2 p3 n3 t3 c3 p4 n4 c4 d4 : Nat} {x1 x3 a : Int32} (ht1 : am_seek t1 cd = (p4, .iconst j4, n4, c4, d4, 0) :: k) (ht3 : am_seek t3 cd = k) (g : hL X d cd hs k lv (vI (if a ≠ 0 then 1 else 0) :: st) p sg kc ks Q) :
    hL X d cd hs ((p1, .ifCond .eq o1, n1, t1, a1, x1) :: (p2, .iconst j2, n2, c2, d2, 1) :: (p3, .goto o3, n3, t3, c3, x3) :: (p4, .iconst j4, n4, c4, d4, 0) :: k) lv (vI a :: st) p sg kc ks Q := by
  refine h_if1 (P := a = 0) ht1 Iff.rfl (fun h => ?_) (fun h => ?_)
  · rw [if_neg (fun q => q h)] at g
    exact h_pure 1 rfl g
  · rw [if_pos h] at g
    refine h_pure 1 rfl ?_
    exact h_goto ht3 g
/-- '.. ? 1L : 0L' -/
theorem h_boolL {o1 o3 : Int} {j2 j4 : Fin 2} {p1 n1 t1 a1 p2 n2 c2 d2 p3 n3 t3 c3 p4 n4 c4 d4 : Nat} {x1 x3 a : Int32} (ht1 : am_seek t1 cd = (p4, .lconst j4, n4, c4, d4, 0) :: k) (ht3 : am_seek t3 cd = k) (g : hL X d cd hs k lv (vL (b01 a) :: st) p sg kc ks Q) :
    hL X d cd hs ((p1, .ifCond .eq o1, n1, t1, a1, x1) :: (p2, .lconst j2, n2, c2, d2, 1) :: (p3, .goto o3, n3, t3, c3, x3) :: (p4, .lconst j4, n4, c4, d4, 0) :: k) lv (vI a :: st) p sg kc ks Q := by
  unfold b01 at g
  refine h_if1 (P := a = 0) ht1 Iff.rfl (fun h => ?_) (fun h => ?_)
  · rw [if_pos h] at g
    exact h_lcst g
  · rw [if_neg h] at g
    exact h_lcst (h_goto ht3 g)
end HB
