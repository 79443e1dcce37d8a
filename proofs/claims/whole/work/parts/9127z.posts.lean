/-! WHAT HOLDS BEHIND EACH OPERATION -/
section PO
variable {B : Nat} {A : AS} {x y z : Int32}
theorem po_go (hI : RI B A) (h : (goR A.S x y).1 = 0) : RI B (A.act (goT A.S x.toNatClampNeg y.toNatClampNeg)) := by
  unfold goR at h
  split at h
  · rename_i h1
    split at h
    · rename_i h2
      split at h
      · rename_i h3
        obtain ⟨a, b, c⟩ := goT_inv hI h1.2 h2.2 h3.1
        exact hI.act a b c
      · cases h
    · cases h
  · cases h
theorem po_give (hI : RI B A) (h : (giveR A.S x y z).1 = 0) : RI B (A.act (gvT A.S x.toNatClampNeg y.toNatClampNeg z.toNatClampNeg)) := by
  unfold giveR at h
  split at h
  · rename_i h1
    split at h
    · rename_i h2
      split at h
      · rename_i h3
        split at h
        · rename_i h4
          have hb := hI.1.b1
          have hx := (okx_at (by omega) h1).1
          have hy := (okx_at (by omega) h2).1
          obtain ⟨a, b, c⟩ := gvT_inv hI h1.2 h2.2 (fun e => h3.2 (by rw [hx, hy, e])) h4
          exact hI.act a b c
        · cases h
      · cases h
    · cases h
  · cases h
theorem po_work (hI : RI B A) (h : (workR A.S x y).1 = 0) : RI B (A.act (wkT A.S x.toNatClampNeg y.toNatClampNeg)) := by
  unfold workR at h
  split at h
  · rename_i h1
    split at h
    · rename_i h2
      obtain ⟨a, b, c⟩ := wkT_inv hI h1.2 h2.2
      exact hI.act a b c
    · cases h
  · cases h
theorem po_tell (hI : RI B A) (h : (tellR A.S x y).1 = 0) : RI B (A.act (lrS A.S x.toNatClampNeg y.toNatClampNeg 8)) := by
  unfold tellR at h
  split at h
  · rename_i h1
    split at h
    · rename_i h2
      have hb := hI.1.b2
      have h3 := h2.2
      obtain ⟨a, b, c⟩ := lr_inv hI (b := 8) h1.2 (show y.toNatClampNeg ≤ 7 by omega)
      exact hI.act a b c
    · cases h
  · cases h
theorem po_dawns (hI : RI B A) (hB : B + 200 ≤ 200000) (h : (dawnsR A.S x).1 = 0) : RI (B + 200) (A.act (dws A.S x.toNatClampNeg).1) := by
  unfold dawnsR at h
  split at h
  · rename_i h1
    obtain ⟨k, hk, e⟩ := okr_of (lo := 1) (hi := 200) ⟨rfl, rfl, by omega, by omega⟩ h1
    have hx : x.toNatClampNeg = k := by
      rw [e]
      exact (g_idx rfl (show k < 201 by omega) (by omega)).2
    rw [hx]
    obtain ⟨a, b, c⟩ := dws_inv hI.1 hI.2.1 k (by omega)
    exact (hI.mono (by omega) (by omega)).act (a.mono (by omega) (by omega)) b (dws_kp hI (by omega))
  · cases h
theorem RC.lsp {p : Nat → Nat} {s : Mg} {S0 S1 : Nat → Int32} (hI : RI B A) (h0 : LSP A S0) (h1 : LSP A S1) (hR : RC (lawA A S0) p s) : RC (lawA A S1) p s := by
  have hI0 := RI.lawI hI h0
  have ht := hI.2.2.2.2.2.2.1
  unfold LSP at h0 h1
  unfold lawA at hR hI0 ⊢
  cases hP : prLaw A.T A.tl with
  | inl f =>
    rw [hP] at h0 h1 hR hI0
    dsimp only at h0 h1 hR hI0 ⊢
    have e : ∀ i, i < 1558 → S1 i = S0 i := fun i hi => (h1 i hi).trans (h0 i hi).symm
    obtain ⟨r1, r2, r3, r4, r5, r6, r7, r8, r9, r10⟩ := hR
    refine ⟨r1, ⟨r2.1.low hI0.1.b14 (fun i h _ => e i (by omega)), r2.2.1.low (fun i h _ => e i (by omega)), r2.2.2.dr hI0.2.2.1 e⟩, r3, fun i hi => ?_, r5, r6, r7, r8, r9, r10⟩
    refine (r4 i hi).low (hI0.2.2.2.2.1 i hi).1.b14 (fun j hj _ => ?_)
    show acD A S1 i j = acD A S0 i j
    unfold acD
    rw [if_pos (by omega), if_pos (by omega)]
  | inr q =>
    rw [hP] at h0 h1 hR hI0
    dsimp only at h0 h1 hR hI0 ⊢
    obtain ⟨g0, w0⟩ := h0
    obtain ⟨g1, w1⟩ := h1
    obtain ⟨o1, o2, o3⟩ := prLaw_ok hP
    have e : ∀ i, i < 709 → i ≠ 7 → S1 i = S0 i := fun i hi h7 => (g1 i hi h7).trans (g0 i hi h7).symm
    obtain ⟨t0, u0⟩ := w0.st o1 o2 (by omega)
    obtain ⟨t1, u1⟩ := w1.st o1 o2 (by omega)
    obtain ⟨r1, r2, r3, r4, r5, r6, r7, r8, r9, r10⟩ := hR
    refine ⟨r1, ⟨r2.1.low hI0.1.b14 e, r2.2.1.low e, ?_⟩, r3, r4, r5, r6, r7, r8, r9, r10⟩
    have hA := r2.2.2
    show cwA 200 s S1
    have hA : cwA 200 s S0 := hA
    unfold cwA at hA ⊢
    rw [w1.1, w1.2.1]
    rw [w0.1, w0.2.1] at hA
    refine ⟨hA.1, fun _ => ?_⟩
    obtain ⟨a1, a2⟩ := hA.2 rfl
    rw [t1, u1]
    rw [t0, u0] at *
    refine ⟨fun n n12 hn => ?_, fun i hi hs => ?_⟩
    · obtain ⟨b1, b2, b3⟩ := a1 n n12 hn
      obtain ⟨c1, c2, c3, c4⟩ := w1.2.2.1 n hn
      obtain ⟨d1, d2, d3, d4⟩ := w0.2.2.1 n hn
      rw [b1, b2, b3, c1, c2, c4, d1, d2, d4]
      exact ⟨rfl, rfl, rfl⟩
    · have b1 := a2 i hi hs
      obtain ⟨c1, c2⟩ := w1.2.2.2 i hs
      obtain ⟨d1, d2⟩ := w0.2.2.2 i hs
      rw [b1, c1, c2, d1, d2]
theorem mOK.law {X : Nat × (Nat → Int32)} {S0 : Nat → Int32} {sg : Mg} (hI : RI B A) (h0 : LSP A S0) (hM : RM A sg) : mOK X B 228 [] (lawA A S0) (lawA A S0) (lawR A) sg := by
  intro p' s hs hC
  rw [ite_self] at hC
  refine gF_mono (m_law (d := 11) hI (hM.hi hs)) (fun r hr => ?_)
  obtain ⟨S1, h1, s2, v, e, t, hv, hM2, rfl⟩ := hr
  rw [ite_self] at hM2
  have hI1 := RI.lawI hI h1
  exact ⟨s2, v, _, by rw [e 900 (by omega)], t, hv, rfl, hI1, (RC.lsp hI h0 h1 hC).lo8 hI1.2.2.2.1 e, hM2⟩
end PO
