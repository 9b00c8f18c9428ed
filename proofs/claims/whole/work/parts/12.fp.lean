/-! doubles that are not below 0 and not above 1000000.0, by their bits -/
def dTop : Nat := 4696837146684686336
theorem d_eq_iff {x y : UInt64} (hx : x.toNat ≤ dTop) (hy : y.toNat ≤ dTop) : d_eq x y = decide (x = y) := by
  sorry
theorem d_scl_iff {r : UInt64} : d_scl r ↔ 0 < r.toNat ∧ r.toNat ≤ dTop := by
  sorry
theorem fp_res {s : UInt64} (v : Int32) (h : s.toNat ≤ dTop) : vf_n64 (FP.dmul (FP.i2d v) s) := by
  sorry
theorem fp_rat1 {x w s : UInt64} (hx : x.toNat ≤ dTop) (hw : w.toNat ≤ dTop) (hs : 0 < s.toNat ∧ s.toNat ≤ dTop) : vf_n64 (FP.dmul x w) ∧ vf_n64 (FP.ddiv (FP.dmul x w) s) := by
  sorry
theorem fp_rat2 {x s : UInt64} (hx : x.toNat ≤ dTop) (hs : 0 < s.toNat ∧ s.toNat ≤ dTop) : vf_n64 (FP.ddiv x s) := by
  sorry
