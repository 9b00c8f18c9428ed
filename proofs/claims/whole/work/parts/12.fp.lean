/-! doubles that are not below 0 and not above 1000000.0, by their bits -/
def dTop : Nat := 4696837146684686336
theorem f_nan {a : UInt64} (h : FP.Core.val64 a ≠ .nan) : vf_n64 a := by
  have h1 := (FP.Core.ne_nan a).mp h
  unfold vf_n64
  rw [UInt64.le_iff_toNat_le, UInt64.toNat_and]
  have e : (0x7fffffffffffffff : UInt64).toNat = 2 ^ 63 - 1 := rfl
  rw [e, Nat.and_two_pow_sub_one_eq_mod]
  exact h1
theorem f_fin {a : UInt64} (h : a.toNat ≤ dTop) : ∃ s c q, FP.Core.val64 a = .fin s c q := (FP.Core.fin_bits a).mpr (by
  rw [Nat.mod_eq_of_lt (by unfold dTop at h; omega)]
  unfold dTop at h
  omega)
theorem f_ne {a : UInt64} (h : a.toNat ≤ dTop) : FP.Core.val64 a ≠ .nan := by
  obtain ⟨s, c, q, e⟩ := f_fin h
  rw [e]
  intro z
  cases z
theorem f_nz {a : UInt64} (h0 : 0 < a.toNat) (h : a.toNat ≤ dTop) : ∃ s c q, FP.Core.val64 a = .fin s c q ∧ c ≠ 0 := by
  obtain ⟨s, c, q, e⟩ := f_fin h
  refine ⟨s, c, q, e, fun hc => ?_⟩
  subst hc
  have := (FP.Core.zero_bits2 a).mp ⟨s, q, e⟩
  rw [Nat.mod_eq_of_lt (by unfold dTop at h; omega)] at this
  omega
theorem f_key {a : UInt64} (h : a.toNat < 2 ^ 63) : FP.Core.dkey a = (a.toNat : Int) := by
  unfold FP.Core.dkey
  rw [if_neg (by omega)]
theorem f_rr {f : FP.Core.Fmt} {s : Bool} {n d : Nat} {e : Int} : FP.Core.roundRatio f s n d e ≠ .nan := by
  unfold FP.Core.roundRatio
  split
  · intro z; cases z
  · unfold FP.Core.roundAt FP.Core.settle FP.Core.bound
    split <;> split <;> intro z <;> cases z
theorem f_mul {a c : UInt64} (ha : ∃ s m q, FP.Core.val64 a = .fin s m q) (hc : ∃ s m q, FP.Core.val64 c = .fin s m q) : FP.Core.val64 (FP.dmul a c) ≠ .nan := by
  obtain ⟨s, m, q, e⟩ := ha
  obtain ⟨t, n, r, e2⟩ := hc
  rw [FP.Core.val64_dmul, e, e2]
  exact f_rr
theorem f_div {a c : UInt64} (ha : FP.Core.val64 a ≠ .nan) (hc : ∃ s m q, FP.Core.val64 c = .fin s m q ∧ m ≠ 0) : FP.Core.val64 (FP.ddiv a c) ≠ .nan := by
  obtain ⟨t, n, r, e2, hn⟩ := hc
  rw [FP.Core.val64_ddiv, e2]
  cases h : FP.Core.val64 a with
  | nan => exact absurd h ha
  | inf s => intro z; cases z
  | fin s m q =>
    show (if n = 0 then _ else _) ≠ _
    rw [if_neg hn]
    exact f_rr
theorem d_eq_iff {x y : UInt64} (hx : x.toNat ≤ dTop) (hy : y.toNat ≤ dTop) : d_eq x y = decide (x = y) := by
  have kx := f_key (a := x) (by unfold dTop at hx; omega)
  have ky := f_key (a := y) (by unfold dTop at hy; omega)
  have hc := FP.Core.dcmp_key (f_ne hx) (f_ne hy)
  rw [kx, ky] at hc
  unfold d_eq
  rw [show FP.dcmp x y = FP.Core.dcmp x y from rfl, hc, decide_eq_decide]
  by_cases h : x = y
  · subst h
    rw [FP.Core.compare_ite, if_neg (by omega), if_pos rfl]
    exact ⟨fun _ => rfl, fun _ => rfl⟩
  · have hn : ¬ (x.toNat : Int) = (y.toNat : Int) := fun z => h (UInt64.toNat_inj.mp (by omega))
    rw [FP.Core.compare_ite]
    refine ⟨fun z => ?_, fun z => absurd z h⟩
    rw [if_neg hn] at z
    split at z <;> exact absurd z (by decide)
theorem d_scl_iff {r : UInt64} : d_scl r ↔ 0 < r.toNat ∧ r.toNat ≤ dTop := by
  unfold d_scl
  have v0 : FP.Core.val64 FP.dconst0 ≠ .nan := (FP.Core.ne_nan _).mpr (by decide)
  have v1 : FP.Core.val64 4696837146684686336 ≠ .nan := (FP.Core.ne_nan _).mpr (by decide)
  have k0 : FP.Core.dkey FP.dconst0 = 0 := by decide
  have k1 : FP.Core.dkey 4696837146684686336 = 4696837146684686336 := by decide
  by_cases hr : FP.Core.val64 r = .nan
  · have e0 : FP.dcmp r FP.dconst0 = none := (FP.Core.dcmp_none _ _).mpr (Or.inl hr)
    rw [e0]
    refine ⟨fun z => absurd (by decide) z.1, fun z => absurd hr (f_ne z.2)⟩
  · have e0 := FP.Core.dcmp_key hr v0
    have e1 := FP.Core.dcmp_key hr v1
    rw [k0] at e0
    rw [k1] at e1
    rw [show FP.dcmp r FP.dconst0 = FP.Core.dcmp r FP.dconst0 from rfl, show FP.dcmp r 4696837146684686336 = FP.Core.dcmp r 4696837146684686336 from rfl, e0, e1, FP.Core.compare_ite, FP.Core.compare_ite]
    have hk : (0 < FP.Core.dkey r ∧ FP.Core.dkey r ≤ 4696837146684686336) ↔ 0 < r.toNat ∧ r.toNat ≤ dTop := by
      unfold FP.Core.dkey dTop
      split <;> omega
    rw [← hk]
    generalize FP.Core.dkey r = v
    constructor
    · rintro ⟨a1, a2⟩
      constructor
      · rcases Int.lt_trichotomy v 0 with h | h | h
        · rw [if_pos h] at a1; exact absurd (by decide) a1
        · rw [if_neg (by omega), if_pos h] at a1; exact absurd (by decide) a1
        · exact h
      · rcases Int.lt_trichotomy v 4696837146684686336 with h | h | h
        · omega
        · omega
        · rw [if_neg (by omega), if_neg (by omega)] at a2; exact absurd (by decide) a2
    · rintro ⟨a1, a2⟩
      constructor
      · rw [if_neg (by omega), if_neg (by omega)]; decide
      · rcases Int.lt_or_eq_of_le a2 with h | h
        · rw [if_pos h]; decide
        · rw [if_neg (by omega), if_pos h]; decide
theorem f_i2d (v : Int32) : ∃ s m q, FP.Core.val64 (FP.i2d v) = .fin s m q := by
  have h := FP.Core.l2d_shape v.toInt64
  obtain ⟨c, q, e⟩ := h
  rw [show FP.i2d v = FP.Core.i2d v from rfl, FP.Core.i2d_l2d]
  exact ⟨_, c, q, e⟩
theorem fp_res {s : UInt64} (v : Int32) (h : s.toNat ≤ dTop) : vf_n64 (FP.dmul (FP.i2d v) s) := f_nan (f_mul (f_i2d v) (f_fin h))
theorem fp_rat1 {x w s : UInt64} (hx : x.toNat ≤ dTop) (hw : w.toNat ≤ dTop) (hs : 0 < s.toNat ∧ s.toNat ≤ dTop) : vf_n64 (FP.dmul x w) ∧ vf_n64 (FP.ddiv (FP.dmul x w) s) := ⟨f_nan (f_mul (f_fin hx) (f_fin hw)), f_nan (f_div (f_mul (f_fin hx) (f_fin hw)) (f_nz hs.1 hs.2))⟩
theorem fp_rat2 {x s : UInt64} (hx : x.toNat ≤ dTop) (hs : 0 < s.toNat ∧ s.toNat ≤ dTop) : vf_n64 (FP.ddiv x s) := f_nan (f_div (f_ne hx) (f_nz hs.1 hs.2))
