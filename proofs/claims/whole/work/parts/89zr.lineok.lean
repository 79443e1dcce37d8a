/-! COUNTRY: each line leaves what is well made (made by wip/whole/gen89zr.py) -/
theorem ok_per {B : Nat} {S : Nat → Int32} (hI : Inv B S) (hStr : Str S) (h8 : sn S 1 < 8) {v c : Nat} {z : Int32} (hv : v < sn S 0) (hc : c < 10000) : OKS B S (upd (upd (upd (upd (upd (upd (upd (upd S (113 + 6 * sn S 1) (nI v)) (113 + 6 * sn S 1 + 1) (-1)) (113 + 6 * sn S 1 + 2) (-1)) (113 + 6 * sn S 1 + 3) (nI c)) (113 + 6 * sn S 1 + 4) (0)) (113 + 6 * sn S 1 + 5) (0)) (11) (z)) (1) (nI (sn S 1 + 1))) := by
  have b0 := hI.b0; have b1 := hI.b1; have b2 := hI.b2; have b3 := hI.b3; have b4 := hI.b4; have b5 := hI.b5; have b9 := hI.b9
  generalize hS' : (upd (upd (upd (upd (upd (upd (upd (upd S (113 + 6 * sn S 1) (nI v)) (113 + 6 * sn S 1 + 1) (-1)) (113 + 6 * sn S 1 + 2) (-1)) (113 + 6 * sn S 1 + 3) (nI c)) (113 + 6 * sn S 1 + 4) (0)) (113 + 6 * sn S 1 + 5) (0)) (11) (z)) (1) (nI (sn S 1 + 1))) = S'
  have hS' := hS'.symm
  have en : ∀ i, (i < 113 + 6 * sn S 1 ∨ 113 + 6 * sn S 1 + 6 ≤ i) → i ≠ 11 → i ≠ 1 → S' i = S i := fun i h1 h2 h3 => by rw [hS', upd_ne (by omega), upd_ne (by omega), upd_ne (by omega), upd_ne (by omega), upd_ne (by omega), upd_ne (by omega), upd_ne (by omega), upd_ne (by omega)]
  have v0 : S' (113 + 6 * sn S 1) = nI v := by rw [hS', upd_ne (by omega), upd_ne (by omega), upd_ne (by omega), upd_ne (by omega), upd_ne (by omega), upd_ne (by omega), upd_ne (by omega), upd_self]
  have v1 : S' (113 + 6 * sn S 1 + 1) = -1 := by rw [hS', upd_ne (by omega), upd_ne (by omega), upd_ne (by omega), upd_ne (by omega), upd_ne (by omega), upd_ne (by omega), upd_self]
  have v2 : S' (113 + 6 * sn S 1 + 2) = -1 := by rw [hS', upd_ne (by omega), upd_ne (by omega), upd_ne (by omega), upd_ne (by omega), upd_ne (by omega), upd_self]
  have v3 : S' (113 + 6 * sn S 1 + 3) = nI c := by rw [hS', upd_ne (by omega), upd_ne (by omega), upd_ne (by omega), upd_ne (by omega), upd_self]
  have v4 : S' (113 + 6 * sn S 1 + 4) = 0 := by rw [hS', upd_ne (by omega), upd_ne (by omega), upd_ne (by omega), upd_self]
  have v5 : S' (113 + 6 * sn S 1 + 5) = 0 := by rw [hS', upd_ne (by omega), upd_ne (by omega), upd_self]
  have v6 : S' (11) = z := by rw [hS', upd_ne (by omega), upd_self]
  have v7 : S' (1) = nI (sn S 1 + 1) := by rw [hS', upd_self]
  have es : sn S' 1 = sn S 1 + 1 := sn_nI v7 (by omega)
  have e0 : S' 0 = S 0 := en 0 (by omega) (by omega) (by omega)
  have s0 : sn S' 0 = sn S 0 := sn.cg e0
  have e2 : S' 2 = S 2 := en 2 (by omega) (by omega) (by omega)
  have s2 : sn S' 2 = sn S 2 := sn.cg e2
  have e3 : S' 3 = S 3 := en 3 (by omega) (by omega) (by omega)
  have s3 : sn S' 3 = sn S 3 := sn.cg e3
  have e4 : S' 4 = S 4 := en 4 (by omega) (by omega) (by omega)
  have s4 : sn S' 4 = sn S 4 := sn.cg e4
  have e5 : S' 5 = S 5 := en 5 (by omega) (by omega) (by omega)
  have s5 : sn S' 5 = sn S 5 := sn.cg e5
  have e6 : S' 6 = S 6 := en 6 (by omega) (by omega) (by omega)
  have e7 : S' 7 = S 7 := en 7 (by omega) (by omega) (by omega)
  have e8 : S' 8 = S 8 := en 8 (by omega) (by omega) (by omega)
  have e9 : S' 9 = S 9 := en 9 (by omega) (by omega) (by omega)
  have e14 : S' 14 = S 14 := en 14 (by omega) (by omega) (by omega)
  refine ⟨hI.grow (hI.n0.cg e0 (Nat.le_refl _)) (isN_nI v7 (by omega) (by omega)) (hI.n2.cg e2 (Nat.le_refl _)) (hI.n3.cg e3 (Nat.le_refl _)) (hI.n4.cg e4 (Nat.le_refl _)) (hI.n5.cg e5 (Nat.le_refl _)) (by omega) (by omega) (hI.n6.cg e6 (Nat.le_refl _)) e7 e8 e9 e14 (fun k j h1 h2 => en _ (by omega) (by omega) (by omega)) (fun k j h1 h2 => en _ (by omega) (by omega) (by omega)) (fun k j h1 h2 => en _ (by omega) (by omega) (by omega)) (fun k j h1 h2 => en _ (by omega) (by omega) (by omega)) (fun k j h1 h2 => en _ (by omega) (by omega) (by omega)) (fun k j h1 h2 => en _ (by omega) (by omega) (by omega)) (fun k h1 h2 => by rw [s0] at h2; omega) (fun k h1 h2 => ?_) (fun k h1 h2 => by rw [s2] at h2; omega) (fun k h1 h2 => by rw [s3] at h2; omega) (fun k h1 h2 => by rw [s4] at h2; omega) (fun k h1 h2 => by rw [s5] at h2; omega), hStr.cg e8 (fun k hk hw => ?_), e6, e7, fun i hi => en i (by omega) (by omega) (by omega)⟩
  · have hk : k = sn S 1 := by omega
    subst hk
    rw [s0]
    exact ⟨⟨isN_nI v0 hv (by omega), v1, v2⟩, isN_nI v3 hc (by omega), isN_nI (a := 0) v4 (by decide) (by decide), isN_nI (a := 0) v5 (by decide) (by decide)⟩
  · by_cases c9 : k < sn S 1
    · exact ⟨c9, en _ (by omega) (by omega) (by omega), en _ (by omega) (by omega) (by omega)⟩
    · have : k = sn S 1 := by omega
      subst this
      rw [v0] at hw
      exact absurd hw (ne_m1 (by omega))

theorem ok_fac {B : Nat} {S : Nat → Int32} (hI : Inv B S) (hStr : Str S) (h8 : sn S 2 < 8) {v c : Nat} (hv : v < sn S 0) (hc : c < sn S 9) : OKS B S (upd (upd (upd S (161 + 2 * sn S 2) (nI v)) (161 + 2 * sn S 2 + 1) (nI c)) (2) (nI (sn S 2 + 1))) := by
  have b0 := hI.b0; have b1 := hI.b1; have b2 := hI.b2; have b3 := hI.b3; have b4 := hI.b4; have b5 := hI.b5; have b9 := hI.b9
  generalize hS' : (upd (upd (upd S (161 + 2 * sn S 2) (nI v)) (161 + 2 * sn S 2 + 1) (nI c)) (2) (nI (sn S 2 + 1))) = S'
  have hS' := hS'.symm
  have en : ∀ i, (i < 161 + 2 * sn S 2 ∨ 161 + 2 * sn S 2 + 2 ≤ i) → i ≠ 2 → S' i = S i := fun i h1 h3 => by rw [hS', upd_ne (by omega), upd_ne (by omega), upd_ne (by omega)]
  have v0 : S' (161 + 2 * sn S 2) = nI v := by rw [hS', upd_ne (by omega), upd_ne (by omega), upd_self]
  have v1 : S' (161 + 2 * sn S 2 + 1) = nI c := by rw [hS', upd_ne (by omega), upd_self]
  have v2 : S' (2) = nI (sn S 2 + 1) := by rw [hS', upd_self]
  have es : sn S' 2 = sn S 2 + 1 := sn_nI v2 (by omega)
  have e0 : S' 0 = S 0 := en 0 (by omega) (by omega)
  have s0 : sn S' 0 = sn S 0 := sn.cg e0
  have e1 : S' 1 = S 1 := en 1 (by omega) (by omega)
  have s1 : sn S' 1 = sn S 1 := sn.cg e1
  have e3 : S' 3 = S 3 := en 3 (by omega) (by omega)
  have s3 : sn S' 3 = sn S 3 := sn.cg e3
  have e4 : S' 4 = S 4 := en 4 (by omega) (by omega)
  have s4 : sn S' 4 = sn S 4 := sn.cg e4
  have e5 : S' 5 = S 5 := en 5 (by omega) (by omega)
  have s5 : sn S' 5 = sn S 5 := sn.cg e5
  have e6 : S' 6 = S 6 := en 6 (by omega) (by omega)
  have e7 : S' 7 = S 7 := en 7 (by omega) (by omega)
  have e8 : S' 8 = S 8 := en 8 (by omega) (by omega)
  have e9 : S' 9 = S 9 := en 9 (by omega) (by omega)
  have e14 : S' 14 = S 14 := en 14 (by omega) (by omega)
  refine ⟨hI.grow (hI.n0.cg e0 (Nat.le_refl _)) (hI.n1.cg e1 (Nat.le_refl _)) (isN_nI v2 (by omega) (by omega)) (hI.n3.cg e3 (Nat.le_refl _)) (hI.n4.cg e4 (Nat.le_refl _)) (hI.n5.cg e5 (Nat.le_refl _)) (by omega) (by omega) (hI.n6.cg e6 (Nat.le_refl _)) e7 e8 e9 e14 (fun k j h1 h2 => en _ (by omega) (by omega)) (fun k j h1 h2 => en _ (by omega) (by omega)) (fun k j h1 h2 => en _ (by omega) (by omega)) (fun k j h1 h2 => en _ (by omega) (by omega)) (fun k j h1 h2 => en _ (by omega) (by omega)) (fun k j h1 h2 => en _ (by omega) (by omega)) (fun k h1 h2 => by rw [s0] at h2; omega) (fun k h1 h2 => by rw [s1] at h2; omega) (fun k h1 h2 => ?_) (fun k h1 h2 => by rw [s3] at h2; omega) (fun k h1 h2 => by rw [s4] at h2; omega) (fun k h1 h2 => by rw [s5] at h2; omega), hStr.cg e8 (fun k hk hw => ?_), e6, e7, fun i hi => en i (by omega) (by omega)⟩
  · have hk : k = sn S 2 := by omega
    subst hk
    rw [s0]
    exact ⟨isN_nI v0 hv (by omega), isN_nI v1 hc (by omega)⟩
  · rw [s1] at hk
    exact ⟨hk, en _ (by omega) (by omega), en _ (by omega) (by omega)⟩

theorem ok_roa {B : Nat} {S : Nat → Int32} (hI : Inv B S) (hStr : Str S) (h8 : sn S 3 < 12) {v c x : Nat} (hv : v < sn S 0) (hc : c < sn S 0) (hne : c ≠ v) (hx : 1 ≤ x ∧ x < 6) : OKS B S (upd (upd (upd (upd S (177 + 3 * sn S 3) (nI v)) (177 + 3 * sn S 3 + 1) (nI c)) (177 + 3 * sn S 3 + 2) (nI x)) (3) (nI (sn S 3 + 1))) := by
  have b0 := hI.b0; have b1 := hI.b1; have b2 := hI.b2; have b3 := hI.b3; have b4 := hI.b4; have b5 := hI.b5; have b9 := hI.b9
  generalize hS' : (upd (upd (upd (upd S (177 + 3 * sn S 3) (nI v)) (177 + 3 * sn S 3 + 1) (nI c)) (177 + 3 * sn S 3 + 2) (nI x)) (3) (nI (sn S 3 + 1))) = S'
  have hS' := hS'.symm
  have en : ∀ i, (i < 177 + 3 * sn S 3 ∨ 177 + 3 * sn S 3 + 3 ≤ i) → i ≠ 3 → S' i = S i := fun i h1 h3 => by rw [hS', upd_ne (by omega), upd_ne (by omega), upd_ne (by omega), upd_ne (by omega)]
  have v0 : S' (177 + 3 * sn S 3) = nI v := by rw [hS', upd_ne (by omega), upd_ne (by omega), upd_ne (by omega), upd_self]
  have v1 : S' (177 + 3 * sn S 3 + 1) = nI c := by rw [hS', upd_ne (by omega), upd_ne (by omega), upd_self]
  have v2 : S' (177 + 3 * sn S 3 + 2) = nI x := by rw [hS', upd_ne (by omega), upd_self]
  have v3 : S' (3) = nI (sn S 3 + 1) := by rw [hS', upd_self]
  have es : sn S' 3 = sn S 3 + 1 := sn_nI v3 (by omega)
  have e0 : S' 0 = S 0 := en 0 (by omega) (by omega)
  have s0 : sn S' 0 = sn S 0 := sn.cg e0
  have e1 : S' 1 = S 1 := en 1 (by omega) (by omega)
  have s1 : sn S' 1 = sn S 1 := sn.cg e1
  have e2 : S' 2 = S 2 := en 2 (by omega) (by omega)
  have s2 : sn S' 2 = sn S 2 := sn.cg e2
  have e4 : S' 4 = S 4 := en 4 (by omega) (by omega)
  have s4 : sn S' 4 = sn S 4 := sn.cg e4
  have e5 : S' 5 = S 5 := en 5 (by omega) (by omega)
  have s5 : sn S' 5 = sn S 5 := sn.cg e5
  have e6 : S' 6 = S 6 := en 6 (by omega) (by omega)
  have e7 : S' 7 = S 7 := en 7 (by omega) (by omega)
  have e8 : S' 8 = S 8 := en 8 (by omega) (by omega)
  have e9 : S' 9 = S 9 := en 9 (by omega) (by omega)
  have e14 : S' 14 = S 14 := en 14 (by omega) (by omega)
  refine ⟨hI.grow (hI.n0.cg e0 (Nat.le_refl _)) (hI.n1.cg e1 (Nat.le_refl _)) (hI.n2.cg e2 (Nat.le_refl _)) (isN_nI v3 (by omega) (by omega)) (hI.n4.cg e4 (Nat.le_refl _)) (hI.n5.cg e5 (Nat.le_refl _)) (by omega) (by omega) (hI.n6.cg e6 (Nat.le_refl _)) e7 e8 e9 e14 (fun k j h1 h2 => en _ (by omega) (by omega)) (fun k j h1 h2 => en _ (by omega) (by omega)) (fun k j h1 h2 => en _ (by omega) (by omega)) (fun k j h1 h2 => en _ (by omega) (by omega)) (fun k j h1 h2 => en _ (by omega) (by omega)) (fun k j h1 h2 => en _ (by omega) (by omega)) (fun k h1 h2 => by rw [s0] at h2; omega) (fun k h1 h2 => by rw [s1] at h2; omega) (fun k h1 h2 => by rw [s2] at h2; omega) (fun k h1 h2 => ?_) (fun k h1 h2 => by rw [s4] at h2; omega) (fun k h1 h2 => by rw [s5] at h2; omega), hStr.cg e8 (fun k hk hw => ?_), e6, e7, fun i hi => en i (by omega) (by omega)⟩
  · have hk : k = sn S 3 := by omega
    subst hk
    rw [s0]
    refine ⟨isN_nI v0 hv (by omega), isN_nI v1 hc (by omega), isN_nI v2 hx.2 (by decide), ?_, ?_⟩
    · rw [sn_nI v2 (by omega)]; exact hx.1
    · rw [sn_nI v0 (by omega), sn_nI v1 (by omega)]; exact fun h => hne h.symm
  · rw [s1] at hk
    exact ⟨hk, en _ (by omega) (by omega), en _ (by omega) (by omega)⟩

theorem ok_deb {B : Nat} {S : Nat → Int32} (hI : Inv B S) (hStr : Str S) (h8 : sn S 4 < 8) {v c x y a b : Nat} (hv : v < sn S 1) (hc : c < sn S 1) (hne : c ≠ v) (hx : 1 ≤ x ∧ x < 1000) (hy : y < sn S 0) (ha : a < sn S 9) (hb : b < sn S 9) (hab : b ≠ a) : OKS B S (upd (upd (upd (upd (upd (upd (upd (upd S (213 + 7 * sn S 4) (nI v)) (213 + 7 * sn S 4 + 1) (nI c)) (213 + 7 * sn S 4 + 2) (nI x)) (213 + 7 * sn S 4 + 3) (nI y)) (213 + 7 * sn S 4 + 4) (nI a)) (213 + 7 * sn S 4 + 5) (nI b)) (213 + 7 * sn S 4 + 6) (0)) (4) (nI (sn S 4 + 1))) := by
  have b0 := hI.b0; have b1 := hI.b1; have b2 := hI.b2; have b3 := hI.b3; have b4 := hI.b4; have b5 := hI.b5; have b9 := hI.b9
  generalize hS' : (upd (upd (upd (upd (upd (upd (upd (upd S (213 + 7 * sn S 4) (nI v)) (213 + 7 * sn S 4 + 1) (nI c)) (213 + 7 * sn S 4 + 2) (nI x)) (213 + 7 * sn S 4 + 3) (nI y)) (213 + 7 * sn S 4 + 4) (nI a)) (213 + 7 * sn S 4 + 5) (nI b)) (213 + 7 * sn S 4 + 6) (0)) (4) (nI (sn S 4 + 1))) = S'
  have hS' := hS'.symm
  have en : ∀ i, (i < 213 + 7 * sn S 4 ∨ 213 + 7 * sn S 4 + 7 ≤ i) → i ≠ 4 → S' i = S i := fun i h1 h3 => by rw [hS', upd_ne (by omega), upd_ne (by omega), upd_ne (by omega), upd_ne (by omega), upd_ne (by omega), upd_ne (by omega), upd_ne (by omega), upd_ne (by omega)]
  have v0 : S' (213 + 7 * sn S 4) = nI v := by rw [hS', upd_ne (by omega), upd_ne (by omega), upd_ne (by omega), upd_ne (by omega), upd_ne (by omega), upd_ne (by omega), upd_ne (by omega), upd_self]
  have v1 : S' (213 + 7 * sn S 4 + 1) = nI c := by rw [hS', upd_ne (by omega), upd_ne (by omega), upd_ne (by omega), upd_ne (by omega), upd_ne (by omega), upd_ne (by omega), upd_self]
  have v2 : S' (213 + 7 * sn S 4 + 2) = nI x := by rw [hS', upd_ne (by omega), upd_ne (by omega), upd_ne (by omega), upd_ne (by omega), upd_ne (by omega), upd_self]
  have v3 : S' (213 + 7 * sn S 4 + 3) = nI y := by rw [hS', upd_ne (by omega), upd_ne (by omega), upd_ne (by omega), upd_ne (by omega), upd_self]
  have v4 : S' (213 + 7 * sn S 4 + 4) = nI a := by rw [hS', upd_ne (by omega), upd_ne (by omega), upd_ne (by omega), upd_self]
  have v5 : S' (213 + 7 * sn S 4 + 5) = nI b := by rw [hS', upd_ne (by omega), upd_ne (by omega), upd_self]
  have v6 : S' (213 + 7 * sn S 4 + 6) = 0 := by rw [hS', upd_ne (by omega), upd_self]
  have v7 : S' (4) = nI (sn S 4 + 1) := by rw [hS', upd_self]
  have es : sn S' 4 = sn S 4 + 1 := sn_nI v7 (by omega)
  have e0 : S' 0 = S 0 := en 0 (by omega) (by omega)
  have s0 : sn S' 0 = sn S 0 := sn.cg e0
  have e1 : S' 1 = S 1 := en 1 (by omega) (by omega)
  have s1 : sn S' 1 = sn S 1 := sn.cg e1
  have e2 : S' 2 = S 2 := en 2 (by omega) (by omega)
  have s2 : sn S' 2 = sn S 2 := sn.cg e2
  have e3 : S' 3 = S 3 := en 3 (by omega) (by omega)
  have s3 : sn S' 3 = sn S 3 := sn.cg e3
  have e5 : S' 5 = S 5 := en 5 (by omega) (by omega)
  have s5 : sn S' 5 = sn S 5 := sn.cg e5
  have e6 : S' 6 = S 6 := en 6 (by omega) (by omega)
  have e7 : S' 7 = S 7 := en 7 (by omega) (by omega)
  have e8 : S' 8 = S 8 := en 8 (by omega) (by omega)
  have e9 : S' 9 = S 9 := en 9 (by omega) (by omega)
  have e14 : S' 14 = S 14 := en 14 (by omega) (by omega)
  refine ⟨hI.grow (hI.n0.cg e0 (Nat.le_refl _)) (hI.n1.cg e1 (Nat.le_refl _)) (hI.n2.cg e2 (Nat.le_refl _)) (hI.n3.cg e3 (Nat.le_refl _)) (isN_nI v7 (by omega) (by omega)) (hI.n5.cg e5 (Nat.le_refl _)) (by omega) (by omega) (hI.n6.cg e6 (Nat.le_refl _)) e7 e8 e9 e14 (fun k j h1 h2 => en _ (by omega) (by omega)) (fun k j h1 h2 => en _ (by omega) (by omega)) (fun k j h1 h2 => en _ (by omega) (by omega)) (fun k j h1 h2 => en _ (by omega) (by omega)) (fun k j h1 h2 => en _ (by omega) (by omega)) (fun k j h1 h2 => en _ (by omega) (by omega)) (fun k h1 h2 => by rw [s0] at h2; omega) (fun k h1 h2 => by rw [s1] at h2; omega) (fun k h1 h2 => by rw [s2] at h2; omega) (fun k h1 h2 => by rw [s3] at h2; omega) (fun k h1 h2 => ?_) (fun k h1 h2 => by rw [s5] at h2; omega), hStr.cg e8 (fun k hk hw => ?_), e6, e7, fun i hi => en i (by omega) (by omega)⟩
  · have hk : k = sn S 4 := by omega
    subst hk
    rw [s0, s1]
    refine ⟨isN_nI v0 hv (by omega), isN_nI v1 hc (by omega), isN_nI v2 hx.2 (by decide), isN_nI v3 hy (by omega), isN_nI v4 ha (by omega), isN_nI v5 hb (by omega), ?_, ?_, ?_⟩
    · rw [sn_nI v2 (by omega)]; exact hx.1
    · rw [sn_nI v0 (by omega), sn_nI v1 (by omega)]; exact fun h => hne h.symm
    · rw [sn_nI v4 (by omega), sn_nI v5 (by omega)]; exact fun h => hab h.symm
  · rw [s1] at hk
    exact ⟨hk, en _ (by omega) (by omega), en _ (by omega) (by omega)⟩

theorem ok_tas {B : Nat} {S : Nat → Int32} (hI : Inv B S) (hStr : Str S) (h8 : sn S 5 < 8) {v c : Nat} {z : Int32} (hv : v < sn S 0) (hc : c < sn S 9) (hz : z = -1 ∨ ∃ x, x < sn S 5 ∧ z = nI x) : OKS B S (upd (upd (upd (upd (upd (upd S (269 + 5 * sn S 5) (nI v)) (269 + 5 * sn S 5 + 1) (nI c)) (269 + 5 * sn S 5 + 2) (z)) (269 + 5 * sn S 5 + 3) (-1)) (269 + 5 * sn S 5 + 4) (-1)) (5) (nI (sn S 5 + 1))) := by
  have b0 := hI.b0; have b1 := hI.b1; have b2 := hI.b2; have b3 := hI.b3; have b4 := hI.b4; have b5 := hI.b5; have b9 := hI.b9
  generalize hS' : (upd (upd (upd (upd (upd (upd S (269 + 5 * sn S 5) (nI v)) (269 + 5 * sn S 5 + 1) (nI c)) (269 + 5 * sn S 5 + 2) (z)) (269 + 5 * sn S 5 + 3) (-1)) (269 + 5 * sn S 5 + 4) (-1)) (5) (nI (sn S 5 + 1))) = S'
  have hS' := hS'.symm
  have en : ∀ i, (i < 269 + 5 * sn S 5 ∨ 269 + 5 * sn S 5 + 5 ≤ i) → i ≠ 5 → S' i = S i := fun i h1 h3 => by rw [hS', upd_ne (by omega), upd_ne (by omega), upd_ne (by omega), upd_ne (by omega), upd_ne (by omega), upd_ne (by omega)]
  have v0 : S' (269 + 5 * sn S 5) = nI v := by rw [hS', upd_ne (by omega), upd_ne (by omega), upd_ne (by omega), upd_ne (by omega), upd_ne (by omega), upd_self]
  have v1 : S' (269 + 5 * sn S 5 + 1) = nI c := by rw [hS', upd_ne (by omega), upd_ne (by omega), upd_ne (by omega), upd_ne (by omega), upd_self]
  have v2 : S' (269 + 5 * sn S 5 + 2) = z := by rw [hS', upd_ne (by omega), upd_ne (by omega), upd_ne (by omega), upd_self]
  have v3 : S' (269 + 5 * sn S 5 + 3) = -1 := by rw [hS', upd_ne (by omega), upd_ne (by omega), upd_self]
  have v4 : S' (269 + 5 * sn S 5 + 4) = -1 := by rw [hS', upd_ne (by omega), upd_self]
  have v5 : S' (5) = nI (sn S 5 + 1) := by rw [hS', upd_self]
  have es : sn S' 5 = sn S 5 + 1 := sn_nI v5 (by omega)
  have e0 : S' 0 = S 0 := en 0 (by omega) (by omega)
  have s0 : sn S' 0 = sn S 0 := sn.cg e0
  have e1 : S' 1 = S 1 := en 1 (by omega) (by omega)
  have s1 : sn S' 1 = sn S 1 := sn.cg e1
  have e2 : S' 2 = S 2 := en 2 (by omega) (by omega)
  have s2 : sn S' 2 = sn S 2 := sn.cg e2
  have e3 : S' 3 = S 3 := en 3 (by omega) (by omega)
  have s3 : sn S' 3 = sn S 3 := sn.cg e3
  have e4 : S' 4 = S 4 := en 4 (by omega) (by omega)
  have s4 : sn S' 4 = sn S 4 := sn.cg e4
  have e6 : S' 6 = S 6 := en 6 (by omega) (by omega)
  have e7 : S' 7 = S 7 := en 7 (by omega) (by omega)
  have e8 : S' 8 = S 8 := en 8 (by omega) (by omega)
  have e9 : S' 9 = S 9 := en 9 (by omega) (by omega)
  have e14 : S' 14 = S 14 := en 14 (by omega) (by omega)
  refine ⟨hI.grow (hI.n0.cg e0 (Nat.le_refl _)) (hI.n1.cg e1 (Nat.le_refl _)) (hI.n2.cg e2 (Nat.le_refl _)) (hI.n3.cg e3 (Nat.le_refl _)) (hI.n4.cg e4 (Nat.le_refl _)) (isN_nI v5 (by omega) (by omega)) (by omega) (by omega) (hI.n6.cg e6 (Nat.le_refl _)) e7 e8 e9 e14 (fun k j h1 h2 => en _ (by omega) (by omega)) (fun k j h1 h2 => en _ (by omega) (by omega)) (fun k j h1 h2 => en _ (by omega) (by omega)) (fun k j h1 h2 => en _ (by omega) (by omega)) (fun k j h1 h2 => en _ (by omega) (by omega)) (fun k j h1 h2 => en _ (by omega) (by omega)) (fun k h1 h2 => by rw [s0] at h2; omega) (fun k h1 h2 => by rw [s1] at h2; omega) (fun k h1 h2 => by rw [s2] at h2; omega) (fun k h1 h2 => by rw [s3] at h2; omega) (fun k h1 h2 => by rw [s4] at h2; omega) (fun k h1 h2 => ?_), hStr.cg e8 (fun k hk hw => ?_), e6, e7, fun i hi => en i (by omega) (by omega)⟩
  · have hk : k = sn S 5 := by omega
    subst hk
    rw [s0]
    refine ⟨isN_nI v0 hv (by omega), isN_nI v1 hc (by omega), ?_, v3, v4⟩
    rcases hz with h | ⟨x, hx, h⟩
    · exact Or.inl (v2.trans h)
    · exact Or.inr (isN_nI (v2.trans h) hx (by omega))
  · rw [s1] at hk
    exact ⟨hk, en _ (by omega) (by omega), en _ (by omega) (by omega)⟩

theorem sel_r {P : Prop} {a : PRs} {f : Nat} {q : Nat × (Nat → Int32)} (h : sel P a (.inl f) = .inr q) : P ∧ a = .inr q := by
  by_cases c : P
  · rw [sel_t c] at h; exact ⟨c, h⟩
  · rw [sel_f c] at h; cases h
theorem upd_upd {S : Nat → Int32} {i : Nat} {x y : Int32} : upd (upd S i x) i y = upd S i y := by
  funext j
  by_cases e : j = i
  · subst e; rw [upd_self, upd_self]
  · rw [upd_ne e, upd_ne e, upd_ne e]
section
variable {B : Nat} {T : Nat → Int32} {n k k' : Nat} {S S' : Nat → Int32}
theorem prPer_ok (hI : Inv B S) (hStr : Str S) (h : prPer T n k S = .inr (k', S')) : OKS B S S' := by
  unfold prPer at h
  obtain ⟨h1, h⟩ := sel_r h
  obtain ⟨h2, h⟩ := sel_r h
  obtain ⟨h3, h⟩ := sel_r h
  cases h
  exact ok_per hI hStr h1 h2.2.2.2 h3.2.2.2
theorem prFac_ok (hI : Inv B S) (hStr : Str S) (h : prFac T n k S = .inr (k', S')) : OKS B S S' := by
  unfold prFac at h
  obtain ⟨h1, h⟩ := sel_r h
  obtain ⟨h2, h⟩ := sel_r h
  obtain ⟨h3, h⟩ := sel_r h
  cases h
  exact ok_fac hI hStr h1 h2.2.2.2 h3.2.2.2
theorem prRoa_ok (hI : Inv B S) (hStr : Str S) (h : prRoa T n k S = .inr (k', S')) : OKS B S S' := by
  unfold prRoa at h
  obtain ⟨h1, h⟩ := sel_r h
  obtain ⟨h2, h⟩ := sel_r h
  obtain ⟨h3, h⟩ := sel_r h
  obtain ⟨h4, h⟩ := sel_r h
  cases h
  exact ok_roa hI hStr h1 h2.2.2.2 h3.1.2.2.2 h3.2 h4.2.2
theorem prDeb_ok (hI : Inv B S) (hStr : Str S) (h : prDeb T n k S = .inr (k', S')) : OKS B S S' := by
  unfold prDeb at h
  obtain ⟨h1, h⟩ := sel_r h
  obtain ⟨h2, h⟩ := sel_r h
  obtain ⟨h3, h⟩ := sel_r h
  obtain ⟨h4, h⟩ := sel_r h
  obtain ⟨h5, h⟩ := sel_r h
  obtain ⟨h6, h⟩ := sel_r h
  obtain ⟨h7, h⟩ := sel_r h
  obtain ⟨h8, h⟩ := sel_r h
  obtain ⟨h9, h⟩ := sel_r h
  obtain ⟨h10, h⟩ := sel_r h
  cases h
  exact ok_deb hI hStr h1 h2.2.2.2 h3.1.2.2.2 h3.2 h4.2.2 h6.2.2.2 h8.2.2.2 h10.1.2.2.2 h10.2
theorem prTas_ok (hI : Inv B S) (hStr : Str S) (h : prTas T n k S = .inr (k', S')) : OKS B S S' := by
  unfold prTas at h
  obtain ⟨h1, h⟩ := sel_r h
  obtain ⟨h2, h⟩ := sel_r h
  obtain ⟨h3, h⟩ := sel_r h
  by_cases c : ¬ dcN (isW T n (nxK T n (nxK T n (nxK T n k))) (am_SL 11)) = true
  · rw [sel_t c] at h
    cases h
    exact ok_tas hI hStr h1 h2.2.2.2 h3.2.2.2 (Or.inl rfl)
  · rw [sel_f c] at h
    obtain ⟨h4, h⟩ := sel_r h
    cases h
    rw [upd_upd]
    exact ok_tas hI hStr h1 h2.2.2.2 h3.2.2.2 (Or.inr ⟨_, h4.2.2.2, rfl⟩)
theorem prFea_ok (hI : Inv B S) (hStr : Str S) (h : prFea T n k S = .inr (k', S')) : OKS B S S' := by
  unfold prFea at h
  obtain ⟨h1, h⟩ := sel_r h
  cases h
  exact OKS.same hI hStr (fun i h1 _ => upd_ne h1)
theorem prCha_ok (hI : Inv B S) (hStr : Str S) (h : prCha T n k S = .inr (k', S')) : OKS B S S' := by
  unfold prCha at h
  obtain ⟨h1, h⟩ := sel_r h
  cases h
  exact OKS.same hI hStr (fun i _ h2 => upd_ne h2)
theorem prMis_ok (hI : Inv B S) (hStr : Str S) (h : prMis T n k S = .inr (k', S')) : OKS B S S' := by
  have b0 := hI.b0; have b9 := hI.b9
  unfold prMis at h
  obtain ⟨h1, h⟩ := sel_r h
  obtain ⟨h2, h⟩ := sel_r h
  obtain ⟨h3, h⟩ := sel_r h
  cases h
  have hv := h1.2.2.2
  have p1 := (pgf_ok hI hv h2.2.2.2).1
  have p2 := (pgf_ok hI hv h3.2.2.2).1
  have e : ∀ i, (i < 17 ∨ 113 ≤ i) → swS S (numK T n (nxK T n k)) (pgf S (numK T n (nxK T n k)) (numK T n (nxK T n (nxK T n k)))) (pgf S (numK T n (nxK T n k)) (numK T n (nxK T n (nxK T n (nxK T n k))))) i = S i := fun i hi => swS_ne (by omega) (by omega)
  exact ⟨hI.swI hv p1 p2, hStr.cg (e 8 (by decide)) (fun k hk _ => ⟨by rw [sn.cg (e 1 (by decide))] at hk; exact hk, e _ (by omega), e _ (by omega)⟩), e 6 (by decide), e 7 (by decide), fun i hi => e i (by omega)⟩
theorem prDay_ok (hI : Inv B S) (hStr : Str S) (h : prDay T n k S = .inr (k', S')) : OKS B S S' := by
  unfold prDay at h
  obtain ⟨h0, h⟩ := sel_r h
  obtain ⟨h1, h⟩ := sel_r h
  have hx := h1.2.2
  generalize numK T n (nxK T n k) = x at h hx
  cases h
  generalize (S 10 &&& ((1 <<< (nI x &&& 31)) - 1)) = y
  have e : ∀ i, i ≠ 9 → i ≠ 10 → upd (upd S 9 (nI x)) 10 y i = S i := fun i h1 h2 => by rw [upd_ne h2, upd_ne h1]
  have e9 : upd (upd S 9 (nI x)) 10 y 9 = nI x := by rw [upd_ne (by decide), upd_self]
  generalize upd (upd S 9 (nI x)) 10 y = S' at e e9
  have es : ∀ i, i ≠ 9 → i ≠ 10 → sn S' i = sn S i := fun i h1 h2 => sn.cg (e i h1 h2)
  have z : ∀ {j : Nat}, isN S j (sn S 0) → False := fun hj => by have := hj.2; omega
  have c8 := hI.1.2.2.2.2.2.2.2.2.1
  refine ⟨⟨⟨hI.n0.cg (e _ (by decide) (by decide)) (Nat.le_refl _), hI.n1.cg (e _ (by decide) (by decide)) (Nat.le_refl _), hI.n2.cg (e _ (by decide) (by decide)) (Nat.le_refl _), hI.n3.cg (e _ (by decide) (by decide)) (Nat.le_refl _), hI.n4.cg (e _ (by decide) (by decide)) (Nat.le_refl _), hI.n5.cg (e _ (by decide) (by decide)) (Nat.le_refl _), hI.1.2.2.2.2.2.2.1.cg (e _ (by decide) (by decide)) (Nat.le_refl _), hI.1.2.2.2.2.2.2.2.1.cg (e _ (by decide) (by decide)) (Nat.le_refl _), ⟨c8.1.cg (e _ (by decide) (by decide)) (Nat.le_refl _), c8.2⟩, ⟨isN_nI e9 hx.2 (by decide), by rw [sn_nI e9 (by omega)]; exact hx.1⟩, hI.1.2.2.2.2.2.2.2.2.2.2.cg (e _ (by decide) (by decide)) (Nat.le_refl _)⟩, ⟨fun v q hv _ => ?_, fun v q r hv _ _ _ => ?_⟩, fun k hk => ?_, fun k hk => ?_, fun k hk => ?_, fun k hk => ?_, fun k hk => ?_⟩, hStr.cg (e 8 (by decide) (by decide)) (fun k hk _ => ⟨by rw [es 1 (by decide) (by decide)] at hk; exact hk, e _ (by omega) (by omega), e _ (by omega) (by omega)⟩), e 6 (by decide) (by decide), e 7 (by decide) (by decide), fun i hi => e i (by omega) (by omega)⟩
  · rw [es 0 (by decide) (by decide)] at hv; omega
  · rw [es 0 (by decide) (by decide)] at hv; omega
  · rw [es 1 (by decide) (by decide)] at hk
    rcases (hI.per hk).1 with h | h
    · exact (z h.1).elim
    · exact (z h.2.1).elim
  · rw [es 2 (by decide) (by decide)] at hk
    exact (z (hI.fac hk).1).elim
  · rw [es 3 (by decide) (by decide)] at hk
    exact (z (hI.roa hk).1).elim
  · rw [es 4 (by decide) (by decide)] at hk
    exact (z (hI.deb hk).2.2.2.1).elim
  · rw [es 5 (by decide) (by decide)] at hk
    exact (z (hI.tas hk).1).elim
/-- the first pages of a village, apart -/
def VQ (S : Nat → Int32) (v m w q : Nat) : Prop := (∀ a, a < q → isN S (17 + 16 * v + a) m ∧ w.testBit (sn S (17 + 16 * v + a)) = true) ∧ ∀ a b, a < q → b < q → sn S (17 + 16 * v + a) = sn S (17 + 16 * v + b) → a = b
theorem vlK_ok {m v : Nat} (hm : m ≤ 16) : ∀ (j q k w : Nat) (S : Nat → Int32), q + j = m → VQ S v m w q → vlK T n m v j q k w S = .inr (k', S') → (∀ i, (i < 17 + 16 * v ∨ 17 + 16 * v + 16 ≤ i) → i ≠ 0 → S' i = S i) ∧ S' 0 = nI (v + 1) ∧ ∃ w', VQ S' v m w' m
  | 0, q, k, w, S, hq, hV, h => by
    have hqm : q = m := by omega
    subst hqm
    cases h
    refine ⟨fun i _ h0 => upd_ne h0, upd_self, w, fun a ha => ?_, fun a b ha hb he => ?_⟩
    · rw [isN_upd (by omega), sn_upd (by omega)]; exact hV.1 a ha
    · rw [sn_upd (by omega), sn_upd (by omega)] at he; exact hV.2 a b ha hb he
  | j + 1, q, k, w, S, hq, hV, h => by
    obtain ⟨c, h⟩ := sel_r h
    have hx := c.1.2.2.2
    have hw := c.2
    generalize numK T n k = x at h hx hw
    have eq : upd S (17 + 16 * v + q) (nI x) (17 + 16 * v + q) = nI x := upd_self
    have := vlK_ok hm j (q + 1) _ _ _ (by omega) ?_ h
    · refine ⟨fun i h1 h0 => ?_, this.2⟩
      rw [this.1 i h1 h0, upd_ne (by omega)]
    · refine ⟨fun a ha => ?_, fun a b ha hb he => ?_⟩
      · by_cases e : a = q
        · subst e
          refine ⟨isN_nI eq hx (by omega), ?_⟩
          rw [sn_nI eq (by omega), Nat.testBit_or, Nat.testBit_two_pow_self, Bool.or_true]
        · rw [isN_upd (by omega), sn_upd (by omega)]
          have := hV.1 a (by omega)
          exact ⟨this.1, by rw [Nat.testBit_or, this.2, Bool.true_or]⟩
      · by_cases e : a = q
        · subst e
          by_cases e2 : b = a
          · exact e2.symm
          · rw [sn_nI eq (by omega), sn_upd (by omega)] at he
            have := (hV.1 b (by omega)).2
            rw [← he, hw] at this
            cases this
        · by_cases e2 : b = q
          · subst e2
            rw [sn_nI eq (by omega), sn_upd (by omega)] at he
            have := (hV.1 a (by omega)).2
            rw [he, hw] at this
            cases this
          · rw [sn_upd (by omega), sn_upd (by omega)] at he
            exact hV.2 a b (by omega) (by omega) he
theorem prVil_ok (hI : Inv B S) (hStr : Str S) (h : prVil T n k S = .inr (k', S')) : OKS B S S' := by
  have b0 := hI.b0; have b1 := hI.b1; have b2 := hI.b2; have b3 := hI.b3; have b4 := hI.b4; have b5 := hI.b5; have b9 := hI.b9
  unfold prVil at h
  obtain ⟨h6, h⟩ := sel_r h
  obtain ⟨en, e0, w', hV⟩ := vlK_ok (by omega) (sn S 9) 0 _ _ S (by omega) ⟨fun a ha => absurd ha (Nat.not_lt_zero _), fun a b ha => absurd ha (Nat.not_lt_zero _)⟩ h
  have es : sn S' 0 = sn S 0 + 1 := sn_nI e0 (by omega)
  have e1 : S' 1 = S 1 := en 1 (by omega) (by decide)
  have e2 : S' 2 = S 2 := en 2 (by omega) (by decide)
  have e3 : S' 3 = S 3 := en 3 (by omega) (by decide)
  have e4 : S' 4 = S 4 := en 4 (by omega) (by decide)
  have e5 : S' 5 = S 5 := en 5 (by omega) (by decide)
  refine ⟨hI.grow (isN_nI e0 (by omega) (by omega)) (hI.n1.cg e1 (Nat.le_refl _)) (hI.n2.cg e2 (Nat.le_refl _)) (hI.n3.cg e3 (Nat.le_refl _)) (hI.n4.cg e4 (Nat.le_refl _)) (hI.n5.cg e5 (Nat.le_refl _)) (by omega) (Nat.le_of_eq (sn.cg e1).symm) (hI.n6.cg (en _ (by omega) (by decide)) (Nat.le_refl _)) (en _ (by omega) (by decide)) (en _ (by omega) (by decide)) (en _ (by omega) (by decide)) (en _ (by omega) (by decide)) (fun v q _ _ => en _ (by omega) (by omega)) (fun k j _ _ => en _ (by omega) (by omega)) (fun k j _ _ => en _ (by omega) (by omega)) (fun k j _ _ => en _ (by omega) (by omega)) (fun k j _ _ => en _ (by omega) (by omega)) (fun k j _ _ => en _ (by omega) (by omega)) (fun v h1 h2 => ?_) (fun k h1 h2 => by rw [sn.cg e1] at h2; omega) (fun k h1 h2 => by rw [sn.cg e2] at h2; omega) (fun k h1 h2 => by rw [sn.cg e3] at h2; omega) (fun k h1 h2 => by rw [sn.cg e4] at h2; omega) (fun k h1 h2 => by rw [sn.cg e5] at h2; omega), hStr.cg (en _ (by omega) (by decide)) (fun k hk _ => ⟨by rw [sn.cg e1] at hk; exact hk, en _ (by omega) (by omega), en _ (by omega) (by omega)⟩), en _ (by omega) (by decide), en _ (by omega) (by decide), fun i hi => en i (by omega) (by omega)⟩
  have hv : v = sn S 0 := by omega
  subst hv
  exact ⟨fun q hq => (hV.1 q hq).1, fun q r hq hr he => hV.2 q r hq hr he⟩
theorem prRest_ok (hI : Inv B S) (hStr : Str S) (h : prRest T n k S = .inr (k', S')) : OKS B S S' := by
  unfold prRest at h
  by_cases c1 : isW T n k (am_SL 12)
  · rw [sel_t c1] at h; exact prDay_ok hI hStr h
  rw [sel_f c1] at h
  by_cases c2 : isW T n k (am_SL 13)
  · rw [sel_t c2] at h; exact prFea_ok hI hStr h
  rw [sel_f c2] at h
  by_cases c3 : isW T n k (am_SL 14)
  · rw [sel_t c3] at h; exact prCha_ok hI hStr h
  rw [sel_f c3] at h
  exact prMis_ok hI hStr (sel_r h).2
theorem prLine_ok (hI : Inv B S) (hStr : Str S) (h : prLine T n k S = .inr (k', S')) : OKS B S S' := by
  unfold prLine at h
  by_cases c1 : isW T n k (am_SL 2)
  · rw [sel_t c1] at h; exact prVil_ok hI hStr h
  rw [sel_f c1] at h
  by_cases c2 : isW T n k (am_SL 3)
  · rw [sel_t c2] at h; exact prPer_ok hI hStr h
  rw [sel_f c2] at h
  by_cases c3 : isW T n k (am_SL 4)
  · rw [sel_t c3] at h; exact prFac_ok hI hStr h
  rw [sel_f c3] at h
  by_cases c4 : isW T n k (am_SL 5)
  · rw [sel_t c4] at h; exact prRoa_ok hI hStr h
  rw [sel_f c4] at h
  by_cases c5 : isW T n k (am_SL 6)
  · rw [sel_t c5] at h; exact prDeb_ok hI hStr h
  rw [sel_f c5] at h
  by_cases c6 : isW T n k (am_SL 10)
  · rw [sel_t c6] at h; exact prTas_ok hI hStr h
  rw [sel_f c6] at h
  exact prRest_ok hI hStr h
end
