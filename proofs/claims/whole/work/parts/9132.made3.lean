/-! WHAT THE CONSTRUCTORS MAKE (printed by wip/whole/gen9132.py) -/
def kn_0 : kn_S := (0, fun _ => (9, 0), fun _ _ => none, fun _ => [])
def kn_r1 : Option (kn_S × Nat × Nat) := kn_run 5000 3 11 (kn_mt 11).1 (am_lv (kn_mt 11).2.1 [vR 0]) [] (kn_new kn_0 0 11) 0 0
def kn_s1 : kn_S × Nat × Nat := kn_r1.getD (kn_0, 0, 0)
def kn_r2 : Option (kn_S × Nat × Nat) := kn_run 500 1 12 (kn_mt 12).1 (am_lv (kn_mt 12).2.1 [vR 510]) [] (kn_new kn_s1.1 0 12) 0 0
def kn_s2 : kn_S × Nat × Nat := kn_r2.getD (kn_0, 0, 0)
def kn_s3 : kn_S := kn_new kn_s2.1 4 1
theorem kn_i1 : (kn_r1.isSome && decide (kn_s1.1.1 = 510) && decide (kn_s1.2.1 = 509) && decide (kn_s1.2.2 = 15962)) = true := by decide +kernel
theorem kn_i2 : (kn_r2.isSome && decide (kn_s2.1.1 = 529) && decide (kn_s2.2.1 = 18) && decide (kn_s2.2.2 = 97163)) = true := by decide +kernel
