/-! THE CLASS: image, back, undo, remember (made by wip/whole/gen46.py) -/
theorem c_image {X : Nat × (Nat → Int32)} {d : Nat} {p : Nat → Nat} {sg : Mg} : gF X (d + 6) 133 [vR 0] p sg (fun r => ∃ s, ((∀ c, c ≠ 0 → c ≤ 401 ∨ 470 ≤ c → s c = sg c) ∧ (∀ k, k ≠ 12 → s 0 k = sg 0 k) ∧ s 0 12 = 1 ∧ ∀ S, sn S 14 ≤ 100 → cwW 200 sg S → cwW 400 s S) ∧ r = gR0 p s) := by
  refine g_in (cd := k_133) (nL := 1) (rc := 12) rfl (g_A (a := 0) (kd := 0) (n := 11) rfl (by decide)) (g_c1 rfl) ?_
  show gW X (d + 5) k_133 0 [some (vR 0)] [] p sg _
  refine g_pure 4 (i' := 4) (lv' := [some (vR 0)]) (st' := [vR 200, vR 400]) rfl ?_
  refine g_cV0E rfl (args := [vR 400, vR 200]) (rest := []) rfl rfl rfl (s_106 (d := d) (Or.inr (Or.inr rfl)) (Or.inl rfl) (by decide)) (fun s1 h1 => ?_)
  refine g_pure 2 (i' := 7) (lv' := [some (vR 0)]) (st' := [vI 1, vR 0]) rfl ?_
  refine g_putB rfl (g_A (a := 0) (kd := 0) (n := 11) rfl (by decide)) g_nar1 ?_
  refine g_vret rfl ?_
  refine ⟨_, ⟨fun c h0 hc => ?_, fun k hk => ?_, mu_self, fun S h14 hS => ?_⟩, rfl⟩
  · rw [mu_ne h0]; exact h1.1 c hc
  · rw [mu_idx hk]; exact congrFun (h1.1 0 (by decide)) k
  · obtain ⟨g1, g2, g3⟩ := h1.2 S h14 hS
    exact ⟨g1.out (by decide), g2.out (by decide), g3.eqx (m := []) (fun c c1 c2 => mu_ne (by omega))⟩
