/-! the reference's numbers: what it computes in longs -/
def hv (v d : Int64) : Int64 := if v < 0 then -(((if v < 0 then -v else v) + d / 2) / d) else ((if v < 0 then -v else v) + d / 2) / d
theorem l_add {a b : Int64} {x y : Int} (ha : a.toInt = x) (hb : b.toInt = y) (h : -2 ^ 63 ≤ x + y ∧ x + y < 2 ^ 63) : (a + b).toInt = x + y := by
  rw [Int64.toInt_add, ha, hb, Int.bmod_def]
  omega
theorem l_mul {a b : Int64} {x y : Int} (ha : a.toInt = x) (hb : b.toInt = y) (h : -2 ^ 63 ≤ x * y ∧ x * y < 2 ^ 63) : (a * b).toInt = x * y := by
  rw [Int64.toInt_mul, ha, hb]
  generalize x * y = z at h
  rw [Int.bmod_def]
  omega
theorem l_neg {a : Int64} {x : Int} (ha : a.toInt = x) (h : -2 ^ 63 < x) : (-a).toInt = -x := by
  have h2 := Int64.toInt_lt a
  rw [Int64.toInt_neg, ha, Int.bmod_def]
  rw [ha] at h2
  omega
theorem l_div {a b : Int64} {x y : Nat} (ha : a.toInt = x) (hb : b.toInt = y) (_ : 0 < y) : (a / b).toInt = ((x / y : Nat) : Int) := by
  have h1 := Int64.toInt_lt a
  have hd : x / y ≤ x := Nat.div_le_self x y
  rw [Int64.toInt_div, ha, hb, ← Int.ofNat_tdiv, Int.bmod_def]
  rw [ha] at h1
  generalize x / y = q at hd
  omega
theorem i_add {a b : Int32} {x y : Int} (ha : a.toInt = x) (hb : b.toInt = y) (h : -2 ^ 31 ≤ x + y ∧ x + y < 2 ^ 31) : (a + b).toInt = x + y := by
  rw [Int32.toInt_add, ha, hb, Int.bmod_def]
  omega
theorem i_sub {a b : Int32} {x y : Int} (ha : a.toInt = x) (hb : b.toInt = y) (h : -2 ^ 31 ≤ x - y ∧ x - y < 2 ^ 31) : (a - b).toInt = x - y := by
  rw [Int32.toInt_sub, ha, hb, Int.bmod_def]
  omega
theorem i_mul {a b : Int32} {x y : Int} (ha : a.toInt = x) (hb : b.toInt = y) (h : -2 ^ 31 ≤ x * y ∧ x * y < 2 ^ 31) : (a * b).toInt = x * y := by
  rw [Int32.toInt_mul, ha, hb]
  generalize x * y = z at h
  rw [Int.bmod_def]
  omega
theorem i_neg {a : Int32} {x : Int} (ha : a.toInt = x) (h : -2 ^ 31 < x) : (-a).toInt = -x := by
  have h2 := Int32.toInt_lt a
  rw [Int32.toInt_neg, ha, Int.bmod_def]
  rw [ha] at h2
  omega
theorem i_div {a b : Int32} {x y : Nat} (ha : a.toInt = x) (hb : b.toInt = y) (_ : 0 < y) : (a / b).toInt = ((x / y : Nat) : Int) := by
  have h1 := Int32.toInt_lt a
  have hd : x / y ≤ x := Nat.div_le_self x y
  rw [Int32.toInt_div, ha, hb, ← Int.ofNat_tdiv, Int.bmod_def]
  rw [ha] at h1
  generalize x / y = q at hd
  omega
theorem shl1 {σ : Nat} (h : σ < 63) {sh : Int32} (hs : sh.toInt = σ) : ((1 : Int64) <<< (sh.toInt64 &&& 63)).toInt = ((2 ^ σ : Nat) : Int) := by
  have e : sh.toInt64 = Int64.ofNat σ := by
    rw [← Int64.toInt_inj, Int32.toInt_toInt64, hs, Int64.toInt_ofNat_of_lt (by omega)]
  rw [e]
  have : ∀ s : Fin 63, ((1 : Int64) <<< (Int64.ofNat s.val &&& 63)).toInt = ((2 ^ s.val : Nat) : Int) := by decide +kernel
  exact this ⟨σ, h⟩
theorem shr {σ : Nat} (h : σ < 63) {sh : Int32} (hs : sh.toInt = σ) {a : Int64} {x : Nat} (ha : a.toInt = x) : (a >>> (sh.toInt64 &&& 63)).toInt = ((x / 2 ^ σ : Nat) : Int) := by
  have e : sh.toInt64 = Int64.ofNat σ := by
    rw [← Int64.toInt_inj, Int32.toInt_toInt64, hs, Int64.toInt_ofNat_of_lt (by omega)]
  rw [e]
  have h2 : ∀ s : Fin 63, ((Int64.ofNat s.val &&& 63).toBitVec.smod 64).toNat = s.val := by decide +kernel
  show (a >>> (Int64.ofNat σ &&& 63)).toBitVec.toInt = _
  rw [Int64.toBitVec_shiftRight]
  unfold BitVec.sshiftRight'
  rw [h2 ⟨σ, h⟩, BitVec.toInt_sshiftRight, show a.toBitVec.toInt = a.toInt from rfl, ha, Int.shiftRight_eq_div_pow]
  rfl
theorem i_abs {x : Int32} : ((if 0 < x.toInt64 then x.toInt64 else -x.toInt64) : Int64).toInt = (x.toInt.natAbs : Int) := by
  have l1 := Int32.toInt_lt x
  have l2 := Int32.le_toInt x
  have e : x.toInt64.toInt = x.toInt := Int32.toInt_toInt64 x
  have z : (0 : Int64).toInt = 0 := rfl
  by_cases h : 0 < x.toInt64
  · rw [if_pos h, e]
    rw [Int64.lt_iff_toInt_lt, e, z] at h
    omega
  · rw [if_neg h, l_neg e (by omega)]
    rw [Int64.lt_iff_toInt_lt, e, z] at h
    omega
/-- a ratio's shift -/
theorem s_sh_b {r : UInt64} (hr : d_good r = true) : ∃ σ : Nat, (s_sh r).toInt = σ ∧ 15 ≤ σ ∧ σ ≤ 54 := by
  obtain ⟨-, h1, h2⟩ := d_good_b hr
  have ex : (s_ex r).toInt = (r.toNat / 2 ^ 52 : Nat) - 1022 := by
    unfold s_ex
    generalize r.toNat / 2 ^ 52 = E at h1 h2
    rw [Int32.toInt_sub, nI_toInt (by omega), show (1022 : Int32).toInt = 1022 from rfl, Int.bmod_def]
    omega
  generalize r.toNat / 2 ^ 52 = E at h1 h2 ex
  unfold s_sh
  split
  · refine ⟨1052 - E, ?_, by omega, by omega⟩
    rw [Int32.toInt_sub, Int32.toInt_add, ex, show (31 : Int32).toInt = 31 from rfl, show (1 : Int32).toInt = 1 from rfl, Int.bmod_def, Int.bmod_def]
    omega
  · refine ⟨1053 - E, ?_, by omega, by omega⟩
    rw [Int32.toInt_sub, ex, show (31 : Int32).toInt = 31 from rfl, Int.bmod_def]
    omega
theorem hv_scl {r : UInt64} (hr : d_good r = true) (x : Int32) : hv (x.toInt64 * s_mul r) (1 <<< ((s_sh r).toInt64 &&& 63)) = s_scl (s_mul r) (s_sh r) x := by
  obtain ⟨σ, hs, s1, s2⟩ := s_sh_b hr
  obtain ⟨m1, m2⟩ := s_mul_b r
  have l1 := Int32.toInt_lt x
  have l2 := Int32.le_toInt x
  have e : x.toInt64.toInt = x.toInt := Int32.toInt_toInt64 x
  generalize s_mul r = m at m1 m2
  obtain ⟨M, hM⟩ : ∃ M : Nat, m.toInt = M := ⟨m.toInt.toNat, by omega⟩
  have hp : (2 : Nat) ^ σ = 2 * 2 ^ (σ - 1) := by rw [← Nat.pow_succ']; congr 1; omega
  have hpb : 2 ^ σ ≤ 2 ^ 54 := Nat.pow_le_pow_right (by decide) s2
  have hpp : 0 < 2 ^ (σ - 1) := Nat.two_pow_pos _
  have hsub : (s_sh r - 1).toInt = ((σ - 1 : Nat) : Int) := by
    rw [Int32.toInt_sub, hs, show (1 : Int32).toInt = 1 from rfl, Int.bmod_def]
    omega
  have c1 := shl1 (by omega) hs
  have c2 := shl1 (by omega) hsub
  -- the product
  have hN : x.toInt.natAbs ≤ 2 ^ 31 := by omega
  have hNM : x.toInt.natAbs * M ≤ 2 ^ 31 * 2 ^ 31 := Nat.mul_le_mul hN (by omega)
  have pr : (x.toInt64 * m).toInt = x.toInt * M := l_mul e hM (by
    have : (x.toInt * (M : Int)).natAbs = x.toInt.natAbs * M := by rw [Int.natAbs_mul, Int.natAbs_natCast]
    omega)
  have hneg : x.toInt64 * m < 0 ↔ x.toInt < 0 := by
    rw [Int64.lt_iff_toInt_lt, pr, show (0 : Int64).toInt = 0 from rfl]
    constructor
    · intro z
      by_cases h : x.toInt < 0
      · exact h
      · have := Int.mul_nonneg (show 0 ≤ x.toInt by omega) (show (0 : Int) ≤ M by omega); omega
    · intro z
      exact Int.mul_neg_of_neg_of_pos z (by omega)
  have hab : (if x.toInt64 * m < 0 then -(x.toInt64 * m) else x.toInt64 * m).toInt = ((x.toInt.natAbs * M : Nat) : Int) := by
    have e2 : ((x.toInt.natAbs * M : Nat) : Int) = (x.toInt.natAbs : Int) * M := by rw [Int.natCast_mul]
    by_cases h : x.toInt64 * m < 0
    · have hx := hneg.mp h
      rw [if_pos h, l_neg pr (by have : (x.toInt * (M : Int)).natAbs = x.toInt.natAbs * M := (by rw [Int.natAbs_mul, Int.natAbs_natCast]); omega), e2, show (x.toInt.natAbs : Int) = -x.toInt by omega, Int.neg_mul]
    · have hx : ¬ x.toInt < 0 := fun z => h (hneg.mpr z)
      rw [if_neg h, pr, e2, show (x.toInt.natAbs : Int) = x.toInt by omega]
  have hm1 := l_mul (i_abs (x := x)) hM (by rw [← Int.natCast_mul]; omega)
  rw [← Int.natCast_mul] at hm1
  have a1 := l_add hm1 c2 (by omega)
  rw [← Int.natCast_add] at a1
  have v1 := shr (by omega) hs a1
  have c3 := l_div c1 (show (2 : Int64).toInt = ((2 : Nat) : Int) from rfl) (by omega)
  rw [show 2 ^ σ / 2 = 2 ^ (σ - 1) by omega] at c3
  have a2 := l_add hab c3 (by omega)
  rw [← Int.natCast_add] at a2
  have v2 := l_div a2 c1 (by omega)
  have ev : (((if x.toInt64 * m < 0 then -(x.toInt64 * m) else x.toInt64 * m) : Int64) + ((1 : Int64) <<< ((s_sh r).toInt64 &&& 63) : Int64) / (2 : Int64)) / ((1 : Int64) <<< ((s_sh r).toInt64 &&& 63) : Int64) = ((if 0 < x.toInt64 then x.toInt64 else -x.toInt64) * m + (1 <<< ((s_sh r - 1).toInt64 &&& 63))) >>> ((s_sh r).toInt64 &&& 63) := by
    rw [← Int64.toInt_inj, v1, v2]
  have h0 : 0 ≤ x ↔ ¬ x.toInt64 * m < 0 := by
    rw [hneg, Int32.le_iff_toInt_le, show (0 : Int32).toInt = 0 from rfl]
    omega
  unfold hv s_scl
  rw [ev]
  by_cases h : x.toInt64 * m < 0
  · rw [if_pos h, if_neg (fun z => h0.mp z h)]
  · rw [if_neg h, if_pos (h0.mpr h)]
theorem cut_eq (v : Int64) : (if v < -128 then (-128 : Int32) else if 127 < v then 127 else v.toInt32) = s_cut v := by
  have a1 : (-128 : Int64).toInt = -128 := rfl
  have a2 : (127 : Int64).toInt = 127 := rfl
  unfold s_cut
  by_cases h1 : v < -128
  · rw [if_pos h1]
    have h2 : v < 127 := by rw [Int64.lt_iff_toInt_lt] at h1 ⊢; omega
    rw [if_pos h2, if_pos h1]
    rfl
  · rw [if_neg h1]
    by_cases h2 : 127 < v
    · have h3 : ¬ v < 127 := by rw [Int64.lt_iff_toInt_lt] at h2 ⊢; omega
      rw [if_pos h2, if_neg h3]
      rfl
    · rw [if_neg h2]
      by_cases h3 : v < 127
      · rw [if_pos h3, if_neg h1]
      · have h4 : v = 127 := by
          rw [← Int64.toInt_inj]
          rw [Int64.lt_iff_toInt_lt] at h2 h3
          omega
        subst h4
        rw [if_neg h3]
        rfl
theorem hv_avg {s n : Int32} (hn : 1 ≤ n.toInt ∧ n.toInt ≤ 9) (hs : -1000000 ≤ s.toInt ∧ s.toInt ≤ 1000000) : (hv (2 * s.toInt64) (2 * n.toInt64)).toInt32 = s_avg s n := by
  have e2 : (2 : Int64).toInt = 2 := rfl
  have es : s.toInt64.toInt = s.toInt := Int32.toInt_toInt64 s
  have en : n.toInt64.toInt = n.toInt := Int32.toInt_toInt64 n
  obtain ⟨N, hN⟩ : ∃ N : Nat, n.toInt = N := ⟨n.toInt.toNat, by omega⟩
  have p1 := l_mul e2 es (by omega)
  have p2 : (2 * n.toInt64).toInt = ((2 * N : Nat) : Int) := by rw [l_mul e2 en (by omega), hN]; omega
  have hneg : 2 * s.toInt64 < 0 ↔ s.toInt < 0 := by rw [Int64.lt_iff_toInt_lt, p1, show (0 : Int64).toInt = 0 from rfl]; omega
  have hab : (if 2 * s.toInt64 < 0 then -(2 * s.toInt64) else 2 * s.toInt64).toInt = ((2 * s.toInt.natAbs : Nat) : Int) := by
    by_cases h : 2 * s.toInt64 < 0
    · have := hneg.mp h
      rw [if_pos h, l_neg p1 (by omega)]
      omega
    · have : ¬ s.toInt < 0 := fun z => h (hneg.mpr z)
      rw [if_neg h, p1]
      omega
  have c3 := l_div p2 (show (2 : Int64).toInt = ((2 : Nat) : Int) from rfl) (by omega)
  rw [show 2 * N / 2 = N by omega] at c3
  have a2 := l_add hab c3 (by omega)
  rw [← Int.natCast_add] at a2
  have v2 := l_div a2 p2 (by omega)
  have hq : (2 * s.toInt.natAbs + N) / (2 * N) ≤ 2 * s.toInt.natAbs + N := Nat.div_le_self _ _
  -- the ints
  have i2 : (2 : Int32).toInt = 2 := rfl
  have q2 : (2 * n).toInt = ((2 * N : Nat) : Int) := by rw [i_mul i2 hN (by omega)]; omega
  have h0 : 0 ≤ s ↔ ¬ s.toInt < 0 := by rw [Int32.le_iff_toInt_le, show (0 : Int32).toInt = 0 from rfl]; omega
  have qa : (2 * (if 0 ≤ s then s else 0 - s)).toInt = ((2 * s.toInt.natAbs : Nat) : Int) := by
    have : (if 0 ≤ s then s else 0 - s).toInt = s.toInt.natAbs := by
      by_cases h : 0 ≤ s
      · have := h0.mp h
        rw [if_pos h]; omega
      · have : s.toInt < 0 := Decidable.not_not.mp (mt h0.mpr h)
        rw [if_neg h, i_sub (show (0 : Int32).toInt = 0 from rfl) rfl (by omega)]; omega
    rw [i_mul i2 this (by omega)]; omega
  have qs : (2 * (if 0 ≤ s then s else 0 - s) + n).toInt = ((2 * s.toInt.natAbs + N : Nat) : Int) := by
    rw [i_add qa hN (by omega)]; omega
  have qd : ((2 * (if 0 ≤ s then s else 0 - s) + n) / (2 * n)).toInt = (((2 * s.toInt.natAbs + N) / (2 * N) : Nat) : Int) := i_div qs q2 (by omega)
  have nz : ¬ n = 0 := fun z => by rw [z] at hn; exact absurd hn.1 (by decide)
  unfold hv s_avg
  rw [if_neg nz]
  generalize (2 * s.toInt.natAbs + N) / (2 * N) = w at hq v2 qd
  have tt : ∀ (a : Int64) (z : Int), a.toInt = z → -2 ^ 31 ≤ z → z < 2 ^ 31 → a.toInt32.toInt = z := by
    intro a z ha h1 h2
    rw [Int64.toInt_toInt32, ha, Int.bmod_def]
    omega
  by_cases h : 2 * s.toInt64 < 0
  · have hs0 : ¬ 0 ≤ s := fun z => h0.mp z (hneg.mp h)
    rw [if_neg hs0, if_pos h]
    rw [← Int32.toInt_inj, tt _ _ (l_neg v2 (by omega)) (by omega) (by omega), i_neg qd (by omega)]
  · have hs0 : 0 ≤ s := h0.mpr (fun z => h (hneg.mpr z))
    rw [if_pos hs0, if_neg h]
    rw [← Int32.toInt_inj, tt _ _ v2 (by omega) (by omega), qd]
