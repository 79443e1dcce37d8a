/-! TABLES: a set of pages turned (made by wip/whole/gen89zb.py) -/
theorem b_6_0 {X : Nat × (Nat → Int32)} {d : Nat} {p : Nat → Nat} {sg : Mg} {Q : am_R → Prop} {s : Nat} {b : Nat} {e : Nat} (u_s : s ≤ 511) (u_b : b ≤ 9) (u_e : e ≤ 9)
    (o1 : Q (gRv p sg (((nI s <<< (nI b &&& 31)) ||| ((nI s <<< (nI b &&& 31)) >>> (nI e &&& 31))) &&& ((1 <<< (nI e &&& 31)) - 1)))) :
    gW X (d + 1) k_6 0 [some (vI (nI s)), some (vI (nI b)), some (vI (nI e)), none] [] p sg Q := by
  refine g_pure 15 (i' := 15) (lv' := [some (vI (nI s)), some (vI (nI b)), some (vI (nI e)), some (vI (nI s <<< (nI b &&& 31)))]) (st' := [vI (((nI s <<< (nI b &&& 31)) ||| ((nI s <<< (nI b &&& 31)) >>> (nI e &&& 31))) &&& ((1 <<< (nI e &&& 31)) - 1))]) rfl ?_
  refine g_iret rfl ?_
  exact o1

/-- a set of pages turned by b -/
def trN (s b e : Nat) : Nat := ((s <<< b) ||| ((s <<< b) >>> e)) % 2 ^ e
theorem tr_ok : ∀ e, e < 10 → ∀ s, s < 2 ^ e → ∀ b, b < 10 → ((nI s <<< (nI b &&& 31)) ||| ((nI s <<< (nI b &&& 31)) >>> (nI e &&& 31))) &&& ((1 <<< (nI e &&& 31)) - 1) = nI (trN s b e) := by decide +kernel
theorem s_6 {X : Nat × (Nat → Int32)} {d : Nat} {p : Nat → Nat} {sg : Mg} {s b e : Nat} (he : e ≤ 9) (hs : s < 2 ^ e) (hb : b ≤ 9) : gF X (d + 2) 6 [vI (nI s), vI (nI b), vI (nI e)] p sg (fun r => r = gRv p sg (nI (trN s b e))) := by
  have h9 : 2 ^ e ≤ 512 := Nat.pow_le_pow_right (n := 2) (j := 9) (by decide) he
  exact g_in (cd := k_6) (nL := 4) (rc := 0) rfl trivial (g_c1 rfl) (b_6_0 (by omega) hb he (by rw [tr_ok e (by omega) s hs b (by omega)]))
theorem tr_bit : ∀ e, e < 10 → ∀ s, s < 2 ^ e → ∀ b, b < e + 1 → ∀ x, x < e → (trN s b e).testBit ((x + b) % e) = s.testBit x := by decide +kernel
