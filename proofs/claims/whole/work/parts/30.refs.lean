/-! THE REFERENCE: its small methods (made by wip/whole/gen30.py) -/
theorem s_195 {X : Nat × (Nat → Int32)} {d : Nat} {p : Nat → Nat} {sg : Mg} {S : Nat → Int32} (hS : sg 801 = S) : gF X (d + 1) 195 [vR 800] p sg (fun r => r = gRv p sg (S 0)) := by
  refine g_in (cd := k_195) (nL := 1) (rc := 13) rfl (g_A (a := 800) (kd := 0) (n := 12) rfl (by decide)) (g_c1 rfl) ?_
  show gW X (d) k_195 0 [some (vR 800)] [] p sg _
  refine g_pure 3 (i' := 3) (lv' := [some (vR 800)]) (st' := [vI 0, vR 801]) rfl ?_
  refine g_ald rfl (g_A (a := 801) (kd := 1) (n := 2407) rfl (by decide)) (by decide) (show 0 = nI 0 from (show (0 : Int32) = nI 0 from rfl)) (by decide) (show _ = S 0 from (congrFun hS 0)) ?_
  refine g_iret rfl ?_
  exact rfl

theorem s_203 {X : Nat × (Nat → Int32)} {d : Nat} {p : Nat → Nat} {sg : Mg} {S : Nat → Int32} (hS : sg 801 = S) : gF X (d + 1) 203 [vR 800] p sg (fun r => r = gRv p sg (S 1)) := by
  refine g_in (cd := k_203) (nL := 1) (rc := 13) rfl (g_A (a := 800) (kd := 0) (n := 12) rfl (by decide)) (g_c1 rfl) ?_
  show gW X (d) k_203 0 [some (vR 800)] [] p sg _
  refine g_pure 3 (i' := 3) (lv' := [some (vR 800)]) (st' := [vI 1, vR 801]) rfl ?_
  refine g_ald rfl (g_A (a := 801) (kd := 1) (n := 2407) rfl (by decide)) (by decide) (show 1 = nI 1 from (show (1 : Int32) = nI 1 from rfl)) (by decide) (show _ = S 1 from (congrFun hS 1)) ?_
  refine g_iret rfl ?_
  exact rfl

theorem s_207 {X : Nat × (Nat → Int32)} {d : Nat} {p : Nat → Nat} {sg : Mg} {S : Nat → Int32} (hS : sg 801 = S) : gF X (d + 1) 207 [vR 800] p sg (fun r => r = gRv p sg (S 2)) := by
  refine g_in (cd := k_207) (nL := 1) (rc := 13) rfl (g_A (a := 800) (kd := 0) (n := 12) rfl (by decide)) (g_c1 rfl) ?_
  show gW X (d) k_207 0 [some (vR 800)] [] p sg _
  refine g_pure 3 (i' := 3) (lv' := [some (vR 800)]) (st' := [vI 2, vR 801]) rfl ?_
  refine g_ald rfl (g_A (a := 801) (kd := 1) (n := 2407) rfl (by decide)) (by decide) (show 2 = nI 2 from (show (2 : Int32) = nI 2 from rfl)) (by decide) (show _ = S 2 from (congrFun hS 2)) ?_
  refine g_iret rfl ?_
  exact rfl

theorem s_209 {X : Nat × (Nat → Int32)} {d : Nat} {p : Nat → Nat} {sg : Mg} {S : Nat → Int32} (hS : sg 801 = S) : gF X (d + 1) 209 [vR 800] p sg (fun r => r = gRv p sg (S 3)) := by
  refine g_in (cd := k_209) (nL := 1) (rc := 13) rfl (g_A (a := 800) (kd := 0) (n := 12) rfl (by decide)) (g_c1 rfl) ?_
  show gW X (d) k_209 0 [some (vR 800)] [] p sg _
  refine g_pure 3 (i' := 3) (lv' := [some (vR 800)]) (st' := [vI 3, vR 801]) rfl ?_
  refine g_ald rfl (g_A (a := 801) (kd := 1) (n := 2407) rfl (by decide)) (by decide) (show 3 = nI 3 from (show (3 : Int32) = nI 3 from rfl)) (by decide) (show _ = S 3 from (congrFun hS 3)) ?_
  refine g_iret rfl ?_
  exact rfl

theorem s_199 {X : Nat × (Nat → Int32)} {d : Nat} {p : Nat → Nat} {sg : Mg} {S : Nat → Int32} (hS : sg 801 = S) : gF X (d + 1) 199 [vR 800] p sg (fun r => r = gRv p sg (S 9)) := by
  refine g_in (cd := k_199) (nL := 1) (rc := 13) rfl (g_A (a := 800) (kd := 0) (n := 12) rfl (by decide)) (g_c1 rfl) ?_
  show gW X (d) k_199 0 [some (vR 800)] [] p sg _
  refine g_pure 3 (i' := 3) (lv' := [some (vR 800)]) (st' := [vI 9, vR 801]) rfl ?_
  refine g_ald rfl (g_A (a := 801) (kd := 1) (n := 2407) rfl (by decide)) (by decide) (show 9 = nI 9 from (show (9 : Int32) = nI 9 from rfl)) (by decide) (show _ = S 9 from (congrFun hS 9)) ?_
  refine g_iret rfl ?_
  exact rfl

theorem s_248 {X : Nat × (Nat → Int32)} {d : Nat} {p : Nat → Nat} {sg : Mg} {S : Nat → Int32} (hS : sg 801 = S) : gF X (d + 1) 248 [vR 800] p sg (fun r => r = gRv p sg (S 8)) := by
  refine g_in (cd := k_248) (nL := 1) (rc := 13) rfl (g_A (a := 800) (kd := 0) (n := 12) rfl (by decide)) (g_c1 rfl) ?_
  show gW X (d) k_248 0 [some (vR 800)] [] p sg _
  refine g_pure 3 (i' := 3) (lv' := [some (vR 800)]) (st' := [vI 8, vR 801]) rfl ?_
  refine g_ald rfl (g_A (a := 801) (kd := 1) (n := 2407) rfl (by decide)) (by decide) (show 8 = nI 8 from (show (8 : Int32) = nI 8 from rfl)) (by decide) (show _ = S 8 from (congrFun hS 8)) ?_
  refine g_iret rfl ?_
  exact rfl

theorem s_217 {X : Nat × (Nat → Int32)} {d : Nat} {p : Nat → Nat} {sg : Mg} {S : Nat → Int32} (hS : sg 801 = S) {v : Nat} {q : Nat} (u_v : v ≤ 5) (u_q : q ≤ 15) : gF X (d + 1) 217 [vR 800, vI (nI v), vI (nI q)] p sg (fun r => r = gRv p sg (S (17 + 16 * v + q))) := by
  refine g_in (cd := k_217) (nL := 3) (rc := 13) rfl (g_A (a := 800) (kd := 0) (n := 12) rfl (by decide)) (g_c1 rfl) ?_
  show gW X (d) k_217 0 [some (vR 800), some (vI (nI v)), some (vI (nI q))] [] p sg _
  refine g_pure 9 (i' := 9) (lv' := [some (vR 800), some (vI (nI v)), some (vI (nI q))]) (st' := [vI ((17 + (16 * nI v)) + nI q), vR 801]) rfl ?_
  refine gW_eq (lv' := [some (vR 800), some (vI (nI v)), some (vI (nI q))]) (st' := [vI (nI (17 + 16 * v + q)), vR 801]) rfl (by rw [(show ((17 + (16 * nI v)) + nI q) = nI (17 + 16 * v + q) from ((g_add (g_add (show (17 : Int32) = nI 17 from rfl) (g_mul (show (16 : Int32) = nI 16 from rfl) (rfl : nI v = nI v))) (rfl : nI q = nI q))).trans (congrArg nI (by omega)))]) rfl ?_
  refine g_ald rfl (g_A (a := 801) (kd := 1) (n := 2407) rfl (by decide)) (by decide) (show nI (17 + 16 * v + q) = nI (17 + 16 * v + q) from (rfl : nI (17 + 16 * v + q) = nI (17 + 16 * v + q))) (by omega) (show _ = S (17 + 16 * v + q) from (congrFun hS (17 + 16 * v + q))) ?_
  refine g_iret rfl ?_
  exact rfl

theorem s_238 {X : Nat × (Nat → Int32)} {d : Nat} {p : Nat → Nat} {sg : Mg} {S : Nat → Int32} (hS : sg 801 = S) {k : Nat} {j : Nat} (u_k : k ≤ 7) (u_j : j ≤ 5) : gF X (d + 1) 238 [vR 800, vI (nI k), vI (nI j)] p sg (fun r => r = gRv p sg (S (113 + 6 * k + j))) := by
  refine g_in (cd := k_238) (nL := 3) (rc := 13) rfl (g_A (a := 800) (kd := 0) (n := 12) rfl (by decide)) (g_c1 rfl) ?_
  show gW X (d) k_238 0 [some (vR 800), some (vI (nI k)), some (vI (nI j))] [] p sg _
  refine g_pure 9 (i' := 9) (lv' := [some (vR 800), some (vI (nI k)), some (vI (nI j))]) (st' := [vI ((113 + (6 * nI k)) + nI j), vR 801]) rfl ?_
  refine gW_eq (lv' := [some (vR 800), some (vI (nI k)), some (vI (nI j))]) (st' := [vI (nI (113 + 6 * k + j)), vR 801]) rfl (by rw [(show ((113 + (6 * nI k)) + nI j) = nI (113 + 6 * k + j) from ((g_add (g_add (show (113 : Int32) = nI 113 from rfl) (g_mul (show (6 : Int32) = nI 6 from rfl) (rfl : nI k = nI k))) (rfl : nI j = nI j))).trans (congrArg nI (by omega)))]) rfl ?_
  refine g_ald rfl (g_A (a := 801) (kd := 1) (n := 2407) rfl (by decide)) (by decide) (show nI (113 + 6 * k + j) = nI (113 + 6 * k + j) from (rfl : nI (113 + 6 * k + j) = nI (113 + 6 * k + j))) (by omega) (show _ = S (113 + 6 * k + j) from (congrFun hS (113 + 6 * k + j))) ?_
  refine g_iret rfl ?_
  exact rfl

theorem s_241 {X : Nat × (Nat → Int32)} {d : Nat} {p : Nat → Nat} {sg : Mg} {S : Nat → Int32} (hS : sg 801 = S) {k : Nat} {j : Nat} (u_k : k ≤ 11) (u_j : j ≤ 2) : gF X (d + 1) 241 [vR 800, vI (nI k), vI (nI j)] p sg (fun r => r = gRv p sg (S (177 + 3 * k + j))) := by
  refine g_in (cd := k_241) (nL := 3) (rc := 13) rfl (g_A (a := 800) (kd := 0) (n := 12) rfl (by decide)) (g_c1 rfl) ?_
  show gW X (d) k_241 0 [some (vR 800), some (vI (nI k)), some (vI (nI j))] [] p sg _
  refine g_pure 9 (i' := 9) (lv' := [some (vR 800), some (vI (nI k)), some (vI (nI j))]) (st' := [vI ((177 + (3 * nI k)) + nI j), vR 801]) rfl ?_
  refine gW_eq (lv' := [some (vR 800), some (vI (nI k)), some (vI (nI j))]) (st' := [vI (nI (177 + 3 * k + j)), vR 801]) rfl (by rw [(show ((177 + (3 * nI k)) + nI j) = nI (177 + 3 * k + j) from ((g_add (g_add (show (177 : Int32) = nI 177 from rfl) (g_mul (show (3 : Int32) = nI 3 from rfl) (rfl : nI k = nI k))) (rfl : nI j = nI j))).trans (congrArg nI (by omega)))]) rfl ?_
  refine g_ald rfl (g_A (a := 801) (kd := 1) (n := 2407) rfl (by decide)) (by decide) (show nI (177 + 3 * k + j) = nI (177 + 3 * k + j) from (rfl : nI (177 + 3 * k + j) = nI (177 + 3 * k + j))) (by omega) (show _ = S (177 + 3 * k + j) from (congrFun hS (177 + 3 * k + j))) ?_
  refine g_iret rfl ?_
  exact rfl

theorem s_243 {X : Nat × (Nat → Int32)} {d : Nat} {p : Nat → Nat} {sg : Mg} {S : Nat → Int32} (hS : sg 801 = S) {k : Nat} {j : Nat} (u_k : k ≤ 7) (u_j : j ≤ 6) : gF X (d + 1) 243 [vR 800, vI (nI k), vI (nI j)] p sg (fun r => r = gRv p sg (S (213 + 7 * k + j))) := by
  refine g_in (cd := k_243) (nL := 3) (rc := 13) rfl (g_A (a := 800) (kd := 0) (n := 12) rfl (by decide)) (g_c1 rfl) ?_
  show gW X (d) k_243 0 [some (vR 800), some (vI (nI k)), some (vI (nI j))] [] p sg _
  refine g_pure 9 (i' := 9) (lv' := [some (vR 800), some (vI (nI k)), some (vI (nI j))]) (st' := [vI ((213 + (7 * nI k)) + nI j), vR 801]) rfl ?_
  refine gW_eq (lv' := [some (vR 800), some (vI (nI k)), some (vI (nI j))]) (st' := [vI (nI (213 + 7 * k + j)), vR 801]) rfl (by rw [(show ((213 + (7 * nI k)) + nI j) = nI (213 + 7 * k + j) from ((g_add (g_add (show (213 : Int32) = nI 213 from rfl) (g_mul (show (7 : Int32) = nI 7 from rfl) (rfl : nI k = nI k))) (rfl : nI j = nI j))).trans (congrArg nI (by omega)))]) rfl ?_
  refine g_ald rfl (g_A (a := 801) (kd := 1) (n := 2407) rfl (by decide)) (by decide) (show nI (213 + 7 * k + j) = nI (213 + 7 * k + j) from (rfl : nI (213 + 7 * k + j) = nI (213 + 7 * k + j))) (by omega) (show _ = S (213 + 7 * k + j) from (congrFun hS (213 + 7 * k + j))) ?_
  refine g_iret rfl ?_
  exact rfl

theorem s_245 {X : Nat × (Nat → Int32)} {d : Nat} {p : Nat → Nat} {sg : Mg} {S : Nat → Int32} (hS : sg 801 = S) {k : Nat} {j : Nat} (u_k : k ≤ 7) (u_j : j ≤ 4) : gF X (d + 1) 245 [vR 800, vI (nI k), vI (nI j)] p sg (fun r => r = gRv p sg (S (269 + 5 * k + j))) := by
  refine g_in (cd := k_245) (nL := 3) (rc := 13) rfl (g_A (a := 800) (kd := 0) (n := 12) rfl (by decide)) (g_c1 rfl) ?_
  show gW X (d) k_245 0 [some (vR 800), some (vI (nI k)), some (vI (nI j))] [] p sg _
  refine g_pure 9 (i' := 9) (lv' := [some (vR 800), some (vI (nI k)), some (vI (nI j))]) (st' := [vI ((269 + (5 * nI k)) + nI j), vR 801]) rfl ?_
  refine gW_eq (lv' := [some (vR 800), some (vI (nI k)), some (vI (nI j))]) (st' := [vI (nI (269 + 5 * k + j)), vR 801]) rfl (by rw [(show ((269 + (5 * nI k)) + nI j) = nI (269 + 5 * k + j) from ((g_add (g_add (show (269 : Int32) = nI 269 from rfl) (g_mul (show (5 : Int32) = nI 5 from rfl) (rfl : nI k = nI k))) (rfl : nI j = nI j))).trans (congrArg nI (by omega)))]) rfl ?_
  refine g_ald rfl (g_A (a := 801) (kd := 1) (n := 2407) rfl (by decide)) (by decide) (show nI (269 + 5 * k + j) = nI (269 + 5 * k + j) from (rfl : nI (269 + 5 * k + j) = nI (269 + 5 * k + j))) (by omega) (show _ = S (269 + 5 * k + j) from (congrFun hS (269 + 5 * k + j))) ?_
  refine g_iret rfl ?_
  exact rfl

theorem s_231 {X : Nat × (Nat → Int32)} {d : Nat} {p : Nat → Nat} {sg : Mg} {x : Int32} {lo : Int32} {hi : Int32} : gF X (d + 1) 231 [vI x, vI lo, vI hi] p sg (fun r => r = gRv p sg (if (¬ (x < lo) ∧ ¬ (hi < x)) then 1 else 0)) := by
  refine g_in (cd := k_231) (nL := 3) (rc := 0) rfl trivial (g_c1 rfl) ?_
  show gW X (d) k_231 0 [some (vI x), some (vI lo), some (vI hi)] [] p sg _
  refine g_pure 2 (i' := 2) (lv' := [some (vI x), some (vI lo), some (vI hi)]) (st' := [vI lo, vI x]) rfl ?_
  refine g_if2 (i' := 8) (P := x < lo) rfl rfl Iff.rfl (fun h1 => ?_) (fun h1 => ?_)
  · refine g_pure 1 (i' := 9) (lv' := [some (vI x), some (vI lo), some (vI hi)]) (st' := [vI 0]) rfl ?_
    refine g_bret rfl g_nar0 ?_
    exact (congrArg (gRv p sg) (if_neg (fun q9 => (fun n9 => n9 h1) q9.1)).symm)
  · refine g_pure 2 (i' := 5) (lv' := [some (vI x), some (vI lo), some (vI hi)]) (st' := [vI hi, vI x]) rfl ?_
    refine g_if2 (i' := 8) (P := hi < x) rfl rfl Iff.rfl (fun h2 => ?_) (fun h2 => ?_)
    · refine g_pure 1 (i' := 9) (lv' := [some (vI x), some (vI lo), some (vI hi)]) (st' := [vI 0]) rfl ?_
      refine g_bret rfl g_nar0 ?_
      exact (congrArg (gRv p sg) (if_neg (fun q9 => (fun n9 => n9 h2) q9.2)).symm)
    · refine g_pure 2 (i' := 9) (lv' := [some (vI x), some (vI lo), some (vI hi)]) (st' := [vI 1]) rfl ?_
      refine g_bret rfl g_nar1 ?_
      exact (congrArg (gRv p sg) (if_pos ⟨h1, h2⟩).symm)

theorem s_201 {X : Nat × (Nat → Int32)} {d : Nat} {p : Nat → Nat} {sg : Mg} {x : Int32} {k : Int32} : gF X (d + 1) 201 [vI x, vI k] p sg (fun r => r = gRv p sg (if ((x >>> (k &&& 31)) &&& 1) = 1 then 1 else 0)) := by
  refine g_in (cd := k_201) (nL := 2) (rc := 0) rfl trivial (g_c1 rfl) ?_
  show gW X (d) k_201 0 [some (vI x), some (vI k)] [] p sg _
  refine g_pure 6 (i' := 6) (lv' := [some (vI x), some (vI k)]) (st' := [vI 1, vI ((x >>> (k &&& 31)) &&& 1)]) rfl ?_
  refine g_if2 (i' := 9) (P := ¬ ((x >>> (k &&& 31)) &&& 1) = 1) rfl rfl Iff.rfl (fun h1 => ?_) (fun h1 => ?_)
  · refine g_pure 1 (i' := 10) (lv' := [some (vI x), some (vI k)]) (st' := [vI 0]) rfl ?_
    refine g_bret rfl g_nar0 ?_
    exact (congrArg (gRv p sg) (if_neg h1).symm)
  · have h1 := Classical.not_not.mp h1
    refine g_pure 2 (i' := 10) (lv' := [some (vI x), some (vI k)]) (st' := [vI 1]) rfl ?_
    refine g_bret rfl g_nar1 ?_
    exact (congrArg (gRv p sg) (if_pos h1).symm)

theorem s_277 {X : Nat × (Nat → Int32)} {d : Nat} {p : Nat → Nat} {sg : Mg} {t : Nat} {v : Nat} (u_t : t ≤ 500) (u_v : v ≤ 5) : gF X (d + 1) 277 [vI (nI t), vI (nI v)] p sg (fun r => r = gRv p sg (nI (6 * t + v))) := by
  refine g_in (cd := k_277) (nL := 2) (rc := 0) rfl trivial (g_c1 rfl) ?_
  show gW X (d) k_277 0 [some (vI (nI t)), some (vI (nI v))] [] p sg _
  refine g_pure 5 (i' := 5) (lv' := [some (vI (nI t)), some (vI (nI v))]) (st' := [vI ((6 * nI t) + nI v)]) rfl ?_
  refine gW_eq (lv' := [some (vI (nI t)), some (vI (nI v))]) (st' := [vI (nI (6 * t + v))]) rfl (by rw [(show ((6 * nI t) + nI v) = nI (6 * t + v) from ((g_add (g_mul (show (6 : Int32) = nI 6 from rfl) (rfl : nI t = nI t)) (rfl : nI v = nI v))).trans (congrArg nI (by omega)))]) rfl ?_
  refine g_iret rfl ?_
  exact rfl

theorem s_313 {X : Nat × (Nat → Int32)} {d : Nat} {p : Nat → Nat} {sg : Mg} {x : Int32} {y : Int32} : gF X (d + 1) 313 [vI x, vI y] p sg (fun r => r = gRv p sg (if y < x then y else x)) := by
  refine g_in (cd := k_313) (nL := 2) (rc := 0) rfl trivial (g_c1 rfl) ?_
  show gW X (d) k_313 0 [some (vI x), some (vI y)] [] p sg _
  refine g_pure 2 (i' := 2) (lv' := [some (vI x), some (vI y)]) (st' := [vI y, vI x]) rfl ?_
  refine g_if2 (i' := 5) (P := y < x) rfl rfl Iff.rfl (fun h1 => ?_) (fun h1 => ?_)
  · refine g_pure 1 (i' := 6) (lv' := [some (vI x), some (vI y)]) (st' := [vI y]) rfl ?_
    refine g_iret rfl ?_
    exact (congrArg (gRv p sg) (by rw [if_pos h1]))
  · refine g_pure 2 (i' := 6) (lv' := [some (vI x), some (vI y)]) (st' := [vI x]) rfl ?_
    refine g_iret rfl ?_
    exact (congrArg (gRv p sg) (by rw [if_neg h1]))

theorem s_316 {X : Nat × (Nat → Int32)} {d : Nat} {p : Nat → Nat} {sg : Mg} {x : Int32} {y : Int32} : gF X (d + 1) 316 [vI x, vI y] p sg (fun r => r = gRv p sg (if x < y then y else x)) := by
  refine g_in (cd := k_316) (nL := 2) (rc := 0) rfl trivial (g_c1 rfl) ?_
  show gW X (d) k_316 0 [some (vI x), some (vI y)] [] p sg _
  refine g_pure 2 (i' := 2) (lv' := [some (vI x), some (vI y)]) (st' := [vI y, vI x]) rfl ?_
  refine g_if2 (i' := 5) (P := x < y) rfl rfl Iff.rfl (fun h1 => ?_) (fun h1 => ?_)
  · refine g_pure 1 (i' := 6) (lv' := [some (vI x), some (vI y)]) (st' := [vI y]) rfl ?_
    refine g_iret rfl ?_
    exact (congrArg (gRv p sg) (by rw [if_pos h1]))
  · refine g_pure 2 (i' := 6) (lv' := [some (vI x), some (vI y)]) (st' := [vI x]) rfl ?_
    refine g_iret rfl ?_
    exact (congrArg (gRv p sg) (by rw [if_neg h1]))
