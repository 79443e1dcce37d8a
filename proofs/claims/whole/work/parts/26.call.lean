/-! CALLS in the walk, by what is known of the method called -/
section GC
variable {X : Nat × (Nat → Int32)} {d : Nat} {cd : List am_CE} {i : Nat} {lv : List (Option AV)} {st : List AV} {p : Nat → Nat} {sg : Mg} {Q : am_R → Prop} {pc nx y na j : Nat} {x v : Int32} {args rest : List AV} {p' : Nat → Nat} {sg' : Mg} {P : Mg → Prop} {ex : Nat}
theorem g_cV1 (h : cd.drop i = (pc, .invokevirtual j, nx, na + 1, y, x) :: cd.drop (i + 1)) (hst : st = args.reverse ++ rest) (hl : args.length = na + 1) (hs : Nat.ble (rest.map am_cat).sum 8 = true) (hf : gF X d y args p sg (fun r => r = gRv p' sg' v)) (g : gW X d cd (i + 1) lv (vI v :: rest) p' sg' Q) : gW X d cd i lv st p sg Q := g_calV h hst hl (Nat.le_of_ble_eq_true hs) hf (fun r hr => by rw [hr]; exact gK_v g)
theorem g_cV0 (h : cd.drop i = (pc, .invokevirtual j, nx, na + 1, y, x) :: cd.drop (i + 1)) (hst : st = args.reverse ++ rest) (hl : args.length = na + 1) (hs : Nat.ble (rest.map am_cat).sum 8 = true) (hf : gF X d y args p sg (fun r => r = gR0 p' sg')) (g : gW X d cd (i + 1) lv rest p' sg' Q) : gW X d cd i lv st p sg Q := g_calV h hst hl (Nat.le_of_ble_eq_true hs) hf (fun r hr => by rw [hr]; exact gK_0 g)
theorem g_cVx (h : cd.drop i = (pc, .invokevirtual j, nx, na + 1, y, x) :: cd.drop (i + 1)) (hst : st = args.reverse ++ rest) (hl : args.length = na + 1) (hs : Nat.ble (rest.map am_cat).sum 8 = true) (hf : gF X d y args p sg (fun r => r = gRx p' sg' ex)) (g : Q (gRx p' sg' ex)) : gW X d cd i lv st p sg Q := g_calV h hst hl (Nat.le_of_ble_eq_true hs) hf (fun r hr => by rw [hr]; exact gK_x g)
theorem g_cV1E (h : cd.drop i = (pc, .invokevirtual j, nx, na + 1, y, x) :: cd.drop (i + 1)) (hst : st = args.reverse ++ rest) (hl : args.length = na + 1) (hs : Nat.ble (rest.map am_cat).sum 8 = true) (hf : gF X d y args p sg (fun r => ∃ s, P s ∧ r = gRv p' s v)) (g : ∀ s, P s → gW X d cd (i + 1) lv (vI v :: rest) p' s Q) : gW X d cd i lv st p sg Q := g_calV h hst hl (Nat.le_of_ble_eq_true hs) hf (fun r hr => by obtain ⟨s, hs, hr⟩ := hr; rw [hr]; exact gK_v (g s hs))
theorem g_cV0E (h : cd.drop i = (pc, .invokevirtual j, nx, na + 1, y, x) :: cd.drop (i + 1)) (hst : st = args.reverse ++ rest) (hl : args.length = na + 1) (hs : Nat.ble (rest.map am_cat).sum 8 = true) (hf : gF X d y args p sg (fun r => ∃ s, P s ∧ r = gR0 p' s)) (g : ∀ s, P s → gW X d cd (i + 1) lv rest p' s Q) : gW X d cd i lv st p sg Q := g_calV h hst hl (Nat.le_of_ble_eq_true hs) hf (fun r hr => by obtain ⟨s, hs, hr⟩ := hr; rw [hr]; exact gK_0 (g s hs))
theorem g_cVxE (h : cd.drop i = (pc, .invokevirtual j, nx, na + 1, y, x) :: cd.drop (i + 1)) (hst : st = args.reverse ++ rest) (hl : args.length = na + 1) (hs : Nat.ble (rest.map am_cat).sum 8 = true) (hf : gF X d y args p sg (fun r => ∃ s, P s ∧ r = gRx p' s ex)) (g : ∀ s, P s → Q (gRx p' s ex)) : gW X d cd i lv st p sg Q := g_calV h hst hl (Nat.le_of_ble_eq_true hs) hf (fun r hr => by obtain ⟨s, hs, hr⟩ := hr; rw [hr]; exact gK_x (g s hs))
theorem g_cS1 (h : cd.drop i = (pc, .invokestatic j, nx, na + 1, y, x) :: cd.drop (i + 1)) (hst : st = args.reverse ++ rest) (hl : args.length = na + 1) (hs : Nat.ble (rest.map am_cat).sum 8 = true) (hf : gF X d y args p sg (fun r => r = gRv p' sg' v)) (g : gW X d cd (i + 1) lv (vI v :: rest) p' sg' Q) : gW X d cd i lv st p sg Q := g_calS h hst hl (Nat.le_of_ble_eq_true hs) hf (fun r hr => by rw [hr]; exact gK_v g)
theorem g_cS0 (h : cd.drop i = (pc, .invokestatic j, nx, na + 1, y, x) :: cd.drop (i + 1)) (hst : st = args.reverse ++ rest) (hl : args.length = na + 1) (hs : Nat.ble (rest.map am_cat).sum 8 = true) (hf : gF X d y args p sg (fun r => r = gR0 p' sg')) (g : gW X d cd (i + 1) lv rest p' sg' Q) : gW X d cd i lv st p sg Q := g_calS h hst hl (Nat.le_of_ble_eq_true hs) hf (fun r hr => by rw [hr]; exact gK_0 g)
theorem g_cSx (h : cd.drop i = (pc, .invokestatic j, nx, na + 1, y, x) :: cd.drop (i + 1)) (hst : st = args.reverse ++ rest) (hl : args.length = na + 1) (hs : Nat.ble (rest.map am_cat).sum 8 = true) (hf : gF X d y args p sg (fun r => r = gRx p' sg' ex)) (g : Q (gRx p' sg' ex)) : gW X d cd i lv st p sg Q := g_calS h hst hl (Nat.le_of_ble_eq_true hs) hf (fun r hr => by rw [hr]; exact gK_x g)
theorem g_cS1E (h : cd.drop i = (pc, .invokestatic j, nx, na + 1, y, x) :: cd.drop (i + 1)) (hst : st = args.reverse ++ rest) (hl : args.length = na + 1) (hs : Nat.ble (rest.map am_cat).sum 8 = true) (hf : gF X d y args p sg (fun r => ∃ s, P s ∧ r = gRv p' s v)) (g : ∀ s, P s → gW X d cd (i + 1) lv (vI v :: rest) p' s Q) : gW X d cd i lv st p sg Q := g_calS h hst hl (Nat.le_of_ble_eq_true hs) hf (fun r hr => by obtain ⟨s, hs, hr⟩ := hr; rw [hr]; exact gK_v (g s hs))
theorem g_cS0E (h : cd.drop i = (pc, .invokestatic j, nx, na + 1, y, x) :: cd.drop (i + 1)) (hst : st = args.reverse ++ rest) (hl : args.length = na + 1) (hs : Nat.ble (rest.map am_cat).sum 8 = true) (hf : gF X d y args p sg (fun r => ∃ s, P s ∧ r = gR0 p' s)) (g : ∀ s, P s → gW X d cd (i + 1) lv rest p' s Q) : gW X d cd i lv st p sg Q := g_calS h hst hl (Nat.le_of_ble_eq_true hs) hf (fun r hr => by obtain ⟨s, hs, hr⟩ := hr; rw [hr]; exact gK_0 (g s hs))
theorem g_setv {a k : Nat} (g : ∀ s, s = mu sg a k v → gW X d cd i lv st p s Q) : gW X d cd i lv st p (mu sg a k v) Q := g _ rfl
theorem g_thr' {pc nx r1 r2 j : Nat} {x : Int32} (h : cd.drop i = (pc, .new j, nx, r1, r2, x) :: cd.drop (i + 1)) (hs : Nat.ble (st.map am_cat).sum 8 = true) (g : Q (gRx p sg r2)) : gW X d cd i lv st p sg Q := g_thr h (Nat.le_of_ble_eq_true hs) g
theorem g_slen' {pc nx j0 j : Nat} {x : Int32} (h : cd.drop i = (pc, .invokevirtual j0, nx, 0, 0, x) :: cd.drop (i + 1)) (hj : j < 77) (hs : Nat.ble (st.map am_cat).sum 8 = true) (g : gW X d cd (i + 1) lv (vI (nI (am_SL j).length) :: st) p sg Q) : gW X d cd i lv (vS j :: st) p sg Q := g_slen h hj (Nat.le_of_ble_eq_true hs) g
theorem g_schr' {pc nx j0 j k : Nat} {x e : Int32} (h : cd.drop i = (pc, .invokevirtual j0, nx, 0, 1, x) :: cd.drop (i + 1)) (hj : j < 77) (hs : Nat.ble (st.map am_cat).sum 8 = true) (hn : (am_SL j).length < 2147483648) (he : e = nI k) (hk : k < (am_SL j).length) (g : gW X d cd (i + 1) lv (vI ((am_SL j).getD k 0) :: st) p sg Q) : gW X d cd i lv (vI e :: vS j :: st) p sg Q := g_schr h hj (Nat.le_of_ble_eq_true hs) hn he hk g
theorem g_copy {pc nx r2 j a b n0 n1 s0 d0 n : Nat} {x es ed en : Int32} (h : cd.drop i = (pc, .invokestatic j, nx, 0, r2, x) :: cd.drop (i + 1)) (ha : am_A (gE p) a 1 n0) (hb : am_A (gE p) b 1 n1) (h1 : es = nI s0) (h2 : ed = nI d0) (h3 : en = nI n) (g1 : s0 + n ≤ n0) (g2 : d0 + n ≤ n1) (b0 : n0 < 2147483648) (b1 : n1 < 2147483648) (hs : Nat.ble (st.map am_cat).sum 8 = true) (g : gW X d cd (i + 1) lv st p (va_up sg b (va_cpy (sg a) (sg b) s0 d0 n)) Q) : gW X d cd i lv (vI en :: vI ed :: vR b :: vI es :: vR a :: st) p sg Q := by
  subst h1 h2 h3
  have e1 : (nI s0).toNatClampNeg = s0 := nI_clamp (by omega)
  have e2 : (nI d0).toNatClampNeg = d0 := nI_clamp (by omega)
  have e3 : (nI n).toNatClampNeg = n := nI_clamp (by omega)
  refine g_stp h ⟨n0, n1, ha, hb, nI_pos (by omega), nI_pos (by omega), nI_pos (by omega), by rw [e1, e3]; exact g1, by rw [e2, e3]; exact g2, Nat.le_of_ble_eq_true hs, ?_⟩
  rw [e1, e2, e3]
  exact g
end GC
theorem cwL.out {l a i : Nat} {x : Int32} {sg : Mg} {S : Nat → Int32} (h : cwL l sg S) (ha : a < l ∨ l + 18 ≤ a) : cwL l (mu sg a i x) S := h.eqx (m := [a]) ((Eqx.rf _ sg).up List.mem_cons_self) (fun b hb => by rw [List.mem_singleton.mp hb]; exact ha)
theorem cwD.out {w a i : Nat} {x : Int32} {sg : Mg} {S : Nat → Int32} (h : cwD w sg S) (ha : a < w + 2 ∨ (w + 8 ≤ a ∧ a < w + 14) ∨ w + 50 ≤ a) : cwD w (mu sg a i x) S := h.eqx (m := [a]) ((Eqx.rf _ sg).up List.mem_cons_self) (fun b hb => by rw [List.mem_singleton.mp hb]; exact ha)
/-! the rows of the tables of tables -/
theorem gR_14 {p : Nat → Nat} {k : Nat} (h : k < 61) : g_ref p 14 k = some (100 + k) := by
  have h9 : ∀ k, k < 61 → g_ref (fun _ => 0) 14 k = some (100 + k) := by decide +kernel
  exact h9 k h
theorem gA_14 {p : Nat → Nat} {k : Nat} (h : k < 61) : am_A (gE p) (100 + k) 1 6 := by
  have h9 : ∀ k, k < 61 → g_is (100 + k) 1 6 = true := by decide +kernel
  exact g_A (h9 k h) (by decide)
theorem gR_15 {p : Nat → Nat} {k : Nat} (h : k < 5) : g_ref p 15 k = some (165 + k) := by
  have h9 : ∀ k, k < 5 → g_ref (fun _ => 0) 15 k = some (165 + k) := by decide +kernel
  exact h9 k h
theorem gA_15 {p : Nat → Nat} {k : Nat} (h : k < 5) : am_A (gE p) (165 + k) 1 6 := by
  have h9 : ∀ k, k < 5 → g_is (165 + k) 1 6 = true := by decide +kernel
  exact g_A (h9 k h) (by decide)
theorem gR_204 {p : Nat → Nat} {k : Nat} (h : k < 8) : g_ref p 204 k = some (214 + k) := by
  have h9 : ∀ k, k < 8 → g_ref (fun _ => 0) 204 k = some (214 + k) := by decide +kernel
  exact h9 k h
theorem gA_204 {p : Nat → Nat} {k : Nat} (h : k < 8) : am_A (gE p) (214 + k) 1 2 := by
  have h9 : ∀ k, k < 8 → g_is (214 + k) 1 2 = true := by decide +kernel
  exact g_A (h9 k h) (by decide)
theorem gR_205 {p : Nat → Nat} {k : Nat} (h : k < 12) : g_ref p 205 k = some (222 + k) := by
  have h9 : ∀ k, k < 12 → g_ref (fun _ => 0) 205 k = some (222 + k) := by decide +kernel
  exact h9 k h
theorem gA_205 {p : Nat → Nat} {k : Nat} (h : k < 12) : am_A (gE p) (222 + k) 1 3 := by
  have h9 : ∀ k, k < 12 → g_is (222 + k) 1 3 = true := by decide +kernel
  exact g_A (h9 k h) (by decide)
theorem gR_206 {p : Nat → Nat} {k : Nat} (h : k < 8) : g_ref p 206 k = some (234 + k) := by
  have h9 : ∀ k, k < 8 → g_ref (fun _ => 0) 206 k = some (234 + k) := by decide +kernel
  exact h9 k h
theorem gA_206 {p : Nat → Nat} {k : Nat} (h : k < 8) : am_A (gE p) (234 + k) 1 6 := by
  have h9 : ∀ k, k < 8 → g_is (234 + k) 1 6 = true := by decide +kernel
  exact g_A (h9 k h) (by decide)
theorem gR_207 {p : Nat → Nat} {k : Nat} (h : k < 8) : g_ref p 207 k = some (242 + k) := by
  have h9 : ∀ k, k < 8 → g_ref (fun _ => 0) 207 k = some (242 + k) := by decide +kernel
  exact h9 k h
theorem gA_207 {p : Nat → Nat} {k : Nat} (h : k < 8) : am_A (gE p) (242 + k) 1 3 := by
  have h9 : ∀ k, k < 8 → g_is (242 + k) 1 3 = true := by decide +kernel
  exact g_A (h9 k h) (by decide)
theorem gR_251 {p : Nat → Nat} {k : Nat} (h : k < 6) : g_ref p 251 k = some (262 + k) := by
  have h9 : ∀ k, k < 6 → g_ref (fun _ => 0) 251 k = some (262 + k) := by decide +kernel
  exact h9 k h
theorem gA_251 {p : Nat → Nat} {k : Nat} (h : k < 6) : am_A (gE p) (262 + k) 1 16 := by
  have h9 : ∀ k, k < 6 → g_is (262 + k) 1 16 = true := by decide +kernel
  exact g_A (h9 k h) (by decide)
theorem gR_304 {p : Nat → Nat} {k : Nat} (h : k < 8) : g_ref p 304 k = some (314 + k) := by
  have h9 : ∀ k, k < 8 → g_ref (fun _ => 0) 304 k = some (314 + k) := by decide +kernel
  exact h9 k h
theorem gA_304 {p : Nat → Nat} {k : Nat} (h : k < 8) : am_A (gE p) (314 + k) 1 2 := by
  have h9 : ∀ k, k < 8 → g_is (314 + k) 1 2 = true := by decide +kernel
  exact g_A (h9 k h) (by decide)
theorem gR_305 {p : Nat → Nat} {k : Nat} (h : k < 12) : g_ref p 305 k = some (322 + k) := by
  have h9 : ∀ k, k < 12 → g_ref (fun _ => 0) 305 k = some (322 + k) := by decide +kernel
  exact h9 k h
theorem gA_305 {p : Nat → Nat} {k : Nat} (h : k < 12) : am_A (gE p) (322 + k) 1 3 := by
  have h9 : ∀ k, k < 12 → g_is (322 + k) 1 3 = true := by decide +kernel
  exact g_A (h9 k h) (by decide)
theorem gR_306 {p : Nat → Nat} {k : Nat} (h : k < 8) : g_ref p 306 k = some (334 + k) := by
  have h9 : ∀ k, k < 8 → g_ref (fun _ => 0) 306 k = some (334 + k) := by decide +kernel
  exact h9 k h
theorem gA_306 {p : Nat → Nat} {k : Nat} (h : k < 8) : am_A (gE p) (334 + k) 1 6 := by
  have h9 : ∀ k, k < 8 → g_is (334 + k) 1 6 = true := by decide +kernel
  exact g_A (h9 k h) (by decide)
theorem gR_307 {p : Nat → Nat} {k : Nat} (h : k < 8) : g_ref p 307 k = some (342 + k) := by
  have h9 : ∀ k, k < 8 → g_ref (fun _ => 0) 307 k = some (342 + k) := by decide +kernel
  exact h9 k h
theorem gA_307 {p : Nat → Nat} {k : Nat} (h : k < 8) : am_A (gE p) (342 + k) 1 3 := by
  have h9 : ∀ k, k < 8 → g_is (342 + k) 1 3 = true := by decide +kernel
  exact g_A (h9 k h) (by decide)
theorem gR_351 {p : Nat → Nat} {k : Nat} (h : k < 6) : g_ref p 351 k = some (362 + k) := by
  have h9 : ∀ k, k < 6 → g_ref (fun _ => 0) 351 k = some (362 + k) := by decide +kernel
  exact h9 k h
theorem gA_351 {p : Nat → Nat} {k : Nat} (h : k < 6) : am_A (gE p) (362 + k) 1 16 := by
  have h9 : ∀ k, k < 6 → g_is (362 + k) 1 16 = true := by decide +kernel
  exact g_A (h9 k h) (by decide)
theorem gR_404 {p : Nat → Nat} {k : Nat} (h : k < 8) : g_ref p 404 k = some (414 + k) := by
  have h9 : ∀ k, k < 8 → g_ref (fun _ => 0) 404 k = some (414 + k) := by decide +kernel
  exact h9 k h
theorem gA_404 {p : Nat → Nat} {k : Nat} (h : k < 8) : am_A (gE p) (414 + k) 1 2 := by
  have h9 : ∀ k, k < 8 → g_is (414 + k) 1 2 = true := by decide +kernel
  exact g_A (h9 k h) (by decide)
theorem gR_405 {p : Nat → Nat} {k : Nat} (h : k < 12) : g_ref p 405 k = some (422 + k) := by
  have h9 : ∀ k, k < 12 → g_ref (fun _ => 0) 405 k = some (422 + k) := by decide +kernel
  exact h9 k h
theorem gA_405 {p : Nat → Nat} {k : Nat} (h : k < 12) : am_A (gE p) (422 + k) 1 3 := by
  have h9 : ∀ k, k < 12 → g_is (422 + k) 1 3 = true := by decide +kernel
  exact g_A (h9 k h) (by decide)
theorem gR_406 {p : Nat → Nat} {k : Nat} (h : k < 8) : g_ref p 406 k = some (434 + k) := by
  have h9 : ∀ k, k < 8 → g_ref (fun _ => 0) 406 k = some (434 + k) := by decide +kernel
  exact h9 k h
theorem gA_406 {p : Nat → Nat} {k : Nat} (h : k < 8) : am_A (gE p) (434 + k) 1 6 := by
  have h9 : ∀ k, k < 8 → g_is (434 + k) 1 6 = true := by decide +kernel
  exact g_A (h9 k h) (by decide)
theorem gR_407 {p : Nat → Nat} {k : Nat} (h : k < 8) : g_ref p 407 k = some (442 + k) := by
  have h9 : ∀ k, k < 8 → g_ref (fun _ => 0) 407 k = some (442 + k) := by decide +kernel
  exact h9 k h
theorem gA_407 {p : Nat → Nat} {k : Nat} (h : k < 8) : am_A (gE p) (442 + k) 1 3 := by
  have h9 : ∀ k, k < 8 → g_is (442 + k) 1 3 = true := by decide +kernel
  exact g_A (h9 k h) (by decide)
theorem gR_451 {p : Nat → Nat} {k : Nat} (h : k < 6) : g_ref p 451 k = some (462 + k) := by
  have h9 : ∀ k, k < 6 → g_ref (fun _ => 0) 451 k = some (462 + k) := by decide +kernel
  exact h9 k h
theorem gA_451 {p : Nat → Nat} {k : Nat} (h : k < 6) : am_A (gE p) (462 + k) 1 16 := by
  have h9 : ∀ k, k < 6 → g_is (462 + k) 1 16 = true := by decide +kernel
  exact g_A (h9 k h) (by decide)
