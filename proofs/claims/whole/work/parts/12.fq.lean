/-! doubles: halves and doubles of normal numbers; the whole number that stands for a ratio -/
/-- a good ratio as a fraction in [0.5, 1) and a power of two, then as a whole number over a power of two -/
def s_fr (r : UInt64) : UInt64 := UInt64.ofNat (1022 * 2 ^ 52 + r.toNat % 2 ^ 52)
def s_ex (r : UInt64) : Int32 := nI (r.toNat / 2 ^ 52) - 1022
def s_m0 (r : UInt64) : Int64 := FP.d2l (FP.dadd (FP.dmul (s_fr r) 4746794007248502784) 4602678819172646912)
def s_mul (r : UInt64) : Int64 := if s_m0 r = 2147483648 then 1073741824 else s_m0 r
def s_sh (r : UInt64) : Int32 := if s_m0 r = 2147483648 then 31 - (s_ex r + 1) else 31 - s_ex r
theorem f_dec {a : UInt64} {E t : Nat} (h : a.toNat = E * 2 ^ 52 + t) (ht : t < 2 ^ 52) (h1 : 1 ≤ E) (h2 : E ≤ 2046) : FP.Core.val64 a = .fin false (2 ^ 52 + t) ((E : Int) - 1075) := by
  have eT : FP.Core.fieldT FP.Core.b64 a.toNat = t := by
    show a.toNat % 2 ^ 52 = t
    rw [h, Nat.mul_comm, Nat.mul_add_mod, Nat.mod_eq_of_lt ht]
  have eD : a.toNat / 2 ^ 52 = E := by
    rw [h, Nat.mul_comm, Nat.mul_add_div (by decide), Nat.div_eq_of_lt ht, Nat.add_zero]
  have eE : FP.Core.fieldE FP.Core.b64 a.toNat = E := by
    show a.toNat / 2 ^ 52 % 2 ^ 11 = E
    rw [eD, Nat.mod_eq_of_lt (by omega)]
  have eS : FP.Core.fieldS FP.Core.b64 a.toNat = false := by
    show (a.toNat / 2 ^ 52 / 2 ^ 11 % 2 == 1) = false
    rw [eD, Nat.div_eq_of_lt (by omega)]
    rfl
  show FP.Core.decode FP.Core.b64 a.toNat = _
  unfold FP.Core.decode
  rw [eE, eT, eS]
  rw [if_neg (show ¬ E = FP.Core.b64.exps - 1 by show ¬ E = 2 ^ 11 - 1; omega), if_neg (by omega)]
  show FP.Core.Datum.fin false (2 ^ 52 + t) ((2 - 1023 - 53 : Int) + ((E : Int) - 1)) = _
  congr 1
  omega
theorem f_fits {c : Nat} {q : Int} (h1 : 2 ^ 52 ≤ c) (h2 : c < 2 ^ 53) (h3 : -1074 ≤ q) (h4 : q ≤ 971) : FP.Core.fits FP.Core.b64 (.fin false c q) := ⟨h2, h3, h4, Or.inr h1⟩
theorem f_of {a c : UInt64} {E t : Nat} (hc : c.toNat = E * 2 ^ 52 + t) (ht : t < 2 ^ 52) (h1 : 1 ≤ E) (h2 : E ≤ 2046) (ha : FP.Core.val64 a = .fin false (2 ^ 52 + t) ((E : Int) - 1075)) : a = c := by
  refine FP.Core.val64_inj (by rw [ha]; intro z; cases z) ?_
  rw [ha, f_dec hc ht h1 h2]
/-- a normal number times a power of two -/
theorem f_pow {a p c : UInt64} {E t K : Nat} (h : a.toNat = E * 2 ^ 52 + t) (ht : t < 2 ^ 52) (h1 : 1 ≤ E) (h2 : E ≤ 2046) (hp : p.toNat = K * 2 ^ 52) (k1 : 1 ≤ K) (k2 : K ≤ 2046) {F : Nat} (hF : F + 1023 = E + K) (f1 : 1 ≤ F) (f2 : F ≤ 2046) (hc : c.toNat = F * 2 ^ 52 + t) : FP.dmul a p = c := by
  refine f_of hc ht f1 f2 ?_
  have vp := f_dec (a := p) (E := K) (t := 0) (by rw [hp, Nat.add_zero]) (Nat.two_pow_pos 52) k1 k2
  rw [FP.Core.val64_dmul, f_dec h ht h1 h2, vp]
  unfold FP.Core.exactProduct FP.Core.round
  dsimp only
  rw [show (false != false) = false from rfl]
  refine FP.Core.roundRatio_exact FP.Core.good_b64 Nat.one_pos (f_fits (by omega) (by omega) (by omega) (by omega)) ?_
  rw [show ((E : Int) - 1075 + ((K : Int) - 1075) - ((F : Int) - 1075)).toNat = 0 by omega, show ((F : Int) - 1075 - ((E : Int) - 1075 + ((K : Int) - 1075))).toNat = 52 by omega]
  omega
theorem f_hdiv {a c : UInt64} {E t : Nat} (h : a.toNat = E * 2 ^ 52 + t) (ht : t < 2 ^ 52) (h1 : 2 ≤ E) (h2 : E ≤ 2046) (hc : c.toNat = (E - 1) * 2 ^ 52 + t) : FP.ddiv a 4611686018427387904 = c := by
  refine f_of hc ht (by omega) (by omega) ?_
  have vp := f_dec (a := 4611686018427387904) (E := 1024) (t := 0) (by decide) (by omega) (by omega) (by omega)
  rw [FP.Core.val64_ddiv, f_dec h ht (by omega) h2, vp]
  unfold FP.Core.quotient
  dsimp only
  rw [if_neg (by omega), show (false != false) = false from rfl]
  refine FP.Core.roundRatio_exact FP.Core.good_b64 (by omega) (f_fits (by omega) (by omega) (by omega) (by omega)) ?_
  rw [show ((E : Int) - 1075 - (((1024 : Nat) : Int) - 1075) - (((E - 1 : Nat) : Int) - 1075)).toNat = 52 by omega, show (((E - 1 : Nat) : Int) - 1075 - ((E : Int) - 1075 - (((1024 : Nat) : Int) - 1075))).toNat = 0 by omega]
  omega
theorem s_fr_n (r : UInt64) : (s_fr r).toNat = 1022 * 2 ^ 52 + r.toNat % 2 ^ 52 := by
  unfold s_fr
  have := Nat.mod_lt r.toNat (show 2 ^ 52 > 0 by decide)
  rw [UInt64.toNat_ofNat', Nat.mod_eq_of_lt (by omega)]
theorem s_m0_b (r : UInt64) : 2 ^ 30 ≤ (s_m0 r).toInt ∧ (s_m0 r).toInt ≤ 2 ^ 31 := by
  have ht := Nat.mod_lt r.toNat (show 2 ^ 52 > 0 by decide)
  have hf := s_fr_n r
  generalize r.toNat % 2 ^ 52 = t at ht hf
  have e1 : FP.dmul (s_fr r) 4746794007248502784 = UInt64.ofNat (1053 * 2 ^ 52 + t) := by
    refine f_pow hf ht (by omega) (by omega) (K := 1054) (by decide) (by omega) (by omega) (F := 1053) (by omega) (by omega) (by omega) ?_
    rw [UInt64.toNat_ofNat', Nat.mod_eq_of_lt (by omega)]
  have v1 : FP.Core.val64 (UInt64.ofNat (1053 * 2 ^ 52 + t)) = .fin false (2 ^ 52 + t) (-22) := by
    have := f_dec (a := UInt64.ofNat (1053 * 2 ^ 52 + t)) (E := 1053) (t := t) (by rw [UInt64.toNat_ofNat', Nat.mod_eq_of_lt (by omega)]) ht (by omega) (by omega)
    rw [this]
    rfl
  have v2 : FP.Core.val64 4602678819172646912 = .fin false (2 ^ 52) (-53) := by decide +kernel
  have v3 : FP.Core.val64 (FP.dadd (UInt64.ofNat (1053 * 2 ^ 52 + t)) 4602678819172646912) = FP.Core.roundRatio FP.Core.b64 false (2 ^ 52 + t + 2 ^ 21) 1 (-22) := by
    rw [FP.Core.val64_dadd, v1, v2]
    show FP.Core.roundRatio FP.Core.b64 (FP.Core.sumSign false false (((2 ^ 52 + t) * 2 ^ 31 : Nat) + ((2 ^ 52 * 2 ^ 0 : Nat) : Int))) ((((2 ^ 52 + t) * 2 ^ 31 : Nat) : Int) + ((2 ^ 52 * 2 ^ 0 : Nat) : Int)).natAbs 1 (-53) = _
    have es : FP.Core.sumSign false false (((2 ^ 52 + t) * 2 ^ 31 : Nat) + ((2 ^ 52 * 2 ^ 0 : Nat) : Int)) = false := by
      unfold FP.Core.sumSign
      split
      · rfl
      · rw [decide_eq_false]; omega
    rw [es]
    refine FP.Core.roundRatio_congr (by decide) (by decide) ?_
    rw [show ((-53 : Int) - -22).toNat = 0 from rfl, show ((-22 : Int) - -53).toNat = 31 from rfl]
    omega
  have key : ∃ c q, FP.Core.val64 (FP.dadd (UInt64.ofNat (1053 * 2 ^ 52 + t)) 4602678819172646912) = .fin false c q ∧ 2 ^ 30 ≤ c * 2 ^ q.toNat / 2 ^ (-q).toNat ∧ c * 2 ^ q.toNat / 2 ^ (-q).toNat ≤ 2 ^ 31 := by
    rw [v3]
    by_cases hc : 2 ^ 52 + t + 2 ^ 21 < 2 ^ 53
    · refine ⟨2 ^ 52 + t + 2 ^ 21, -22, ?_, ?_, ?_⟩
      · exact FP.Core.roundRatio_exact FP.Core.good_b64 Nat.one_pos (f_fits (by omega) hc (by omega) (by omega)) (by rw [show ((-22 : Int) - -22).toNat = 0 from rfl]; omega)
      · show 2 ^ 30 ≤ (2 ^ 52 + t + 2 ^ 21) * 2 ^ 0 / 2 ^ 22
        omega
      · show (2 ^ 52 + t + 2 ^ 21) * 2 ^ 0 / 2 ^ 22 ≤ 2 ^ 31
        omega
    · have hq : FP.Core.quantum FP.Core.b64 (2 ^ 52 + t + 2 ^ 21) 1 (-22) = -21 := by
        have hl : (2 ^ 52 + t + 2 ^ 21).log2 = 53 := by
          rw [Nat.log2_eq_iff (by omega)]
          omega
        have hd : FP.Core.leading (2 ^ 52 + t + 2 ^ 21) 1 = 53 := by
          unfold FP.Core.leading
          rw [hl, show Nat.log2 1 = 0 from rfl]
          exact if_pos (show 1 * 2 ^ 53 ≤ (2 ^ 52 + t + 2 ^ 21) * 2 ^ 0 by omega)
        unfold FP.Core.quantum
        rw [hd]
        rfl
      have hn1 : 2 ^ 52 ≤ FP.Core.nearest (2 ^ 52 + t + 2 ^ 21) 2 := FP.Core.nearest_ge (by decide) (by omega)
      have hn2 : FP.Core.nearest (2 ^ 52 + t + 2 ^ 21) 2 ≤ 2 ^ 52 + 2 ^ 20 := FP.Core.nearest_le (by decide) (by omega)
      refine ⟨FP.Core.nearest (2 ^ 52 + t + 2 ^ 21) 2, -21, ?_, ?_, ?_⟩
      · unfold FP.Core.roundRatio
        rw [if_neg (by omega), hq]
        unfold FP.Core.roundAt FP.Core.unitsNum FP.Core.unitsDen
        rw [show ((-22 : Int) - -21).toNat = 0 from rfl, show ((-21 : Int) - -22).toNat = 1 from rfl, Nat.pow_zero, Nat.mul_one, show 1 * 2 ^ 1 = 2 from rfl]
        unfold FP.Core.settle FP.Core.bound
        rw [if_pos (show _ < 2 ^ FP.Core.b64.p by show _ < 2 ^ 53; omega), if_pos (show (-21 : Int) ≤ FP.Core.b64.qmax by show (-21 : Int) ≤ 971; omega)]
      · show 2 ^ 30 ≤ FP.Core.nearest (2 ^ 52 + t + 2 ^ 21) 2 * 2 ^ 0 / 2 ^ 21
        omega
      · show FP.Core.nearest (2 ^ 52 + t + 2 ^ 21) 2 * 2 ^ 0 / 2 ^ 21 ≤ 2 ^ 31
        omega
  obtain ⟨c, q, hv, hb1, hb2⟩ := key
  have hm : s_m0 r = Int64.ofInt (max (-2 ^ 63) (min (2 ^ 63 - 1) ((c * 2 ^ q.toNat / 2 ^ (-q).toNat : Nat) : Int))) := by
    unfold s_m0
    rw [e1]
    show FP.Core.toL (FP.Core.val64 _) = _
    rw [hv]
    rfl
  generalize c * 2 ^ q.toNat / 2 ^ (-q).toNat = w at hm hb1 hb2
  rw [hm, Int64.toInt_ofInt_of_le (by omega) (by omega)]
  omega
theorem s_mul_b (r : UInt64) : 2 ^ 30 ≤ (s_mul r).toInt ∧ (s_mul r).toInt < 2 ^ 31 := by
  have h := s_m0_b r
  unfold s_mul
  split
  · exact ⟨by decide, by decide⟩
  · next hne =>
    refine ⟨h.1, ?_⟩
    have : (s_m0 r).toInt ≠ 2 ^ 31 := fun z => hne (Int64.toInt_inj.mp (by rw [z]; rfl))
    omega
/-- a good ratio, by its bits -/
theorem d_good_b {r : UInt64} (h : d_good r = true) : r.toNat < 2 ^ 63 ∧ 999 ≤ r.toNat / 2 ^ 52 ∧ r.toNat / 2 ^ 52 ≤ 1037 := by
  unfold d_good at h
  rw [Bool.and_eq_true, decide_eq_true_eq, decide_eq_true_eq] at h
  have v0 : FP.Core.val64 4502148214488346440 ≠ .nan := (FP.Core.ne_nan _).mpr (by decide)
  have v1 : FP.Core.val64 4673975551164153856 ≠ .nan := (FP.Core.ne_nan _).mpr (by decide)
  have k0 : FP.Core.dkey 4502148214488346440 = 4502148214488346440 := by decide
  have k1 : FP.Core.dkey 4673975551164153856 = 4673975551164153856 := by decide
  by_cases hr : FP.Core.val64 r = .nan
  · have e0 : FP.dcmp r 4502148214488346440 = none := (FP.Core.dcmp_none _ _).mpr (Or.inl hr)
    rw [e0] at h
    exact absurd (by decide) h.1
  · have e0 := FP.Core.dcmp_key hr v0
    have e1 := FP.Core.dcmp_key hr v1
    rw [k0] at e0
    rw [k1] at e1
    rw [show FP.dcmp r 4502148214488346440 = FP.Core.dcmp r 4502148214488346440 from rfl, show FP.dcmp r 4673975551164153856 = FP.Core.dcmp r 4673975551164153856 from rfl, e0, e1, FP.Core.compare_ite, FP.Core.compare_ite] at h
    have hk : 4502148214488346440 < FP.Core.dkey r ∧ FP.Core.dkey r < 4673975551164153856 := by
      generalize FP.Core.dkey r = v at h
      constructor
      · rcases Int.lt_trichotomy v 4502148214488346440 with g | g | g
        · rw [if_pos g] at h; exact absurd (by decide) h.1
        · rw [if_neg (by omega), if_pos g] at h; exact absurd (by decide) h.1
        · exact g
      · rcases Int.lt_trichotomy v 4673975551164153856 with g | g | g
        · exact g
        · have := h.2; rw [if_neg (by omega), if_pos g] at this; exact absurd (by decide) this
        · have := h.2; rw [if_neg (by omega), if_neg (by omega)] at this; exact absurd (by decide) this
    unfold FP.Core.dkey at hk
    split at hk <;> omega
theorem f_cmp {a p : UInt64} (ha : a.toNat < 9218868437227405312) (hp : p.toNat < 9218868437227405312) : FP.dcmp a p = some (compare (a.toNat : Int) (p.toNat : Int)) := by
  have h := FP.Core.dcmp_key (a := a) (b := p) ((FP.Core.ne_nan _).mpr (by rw [Nat.mod_eq_of_lt (by omega)]; omega)) ((FP.Core.ne_nan _).mpr (by rw [Nat.mod_eq_of_lt (by omega)]; omega))
  rw [f_key (by omega), f_key (by omega)] at h
  exact h
theorem f_lt {a p : UInt64} (ha : a.toNat < 9218868437227405312) (hp : p.toNat < 9218868437227405312) (op : ClassFile.CmpOp) : Op.cmpValue (FP.dcmp a p) op < 0 ↔ a.toNat < p.toNat := by
  rw [f_cmp ha hp, FP.Core.compare_ite]
  rcases Int.lt_trichotomy (a.toNat : Int) (p.toNat : Int) with g | g | g
  · rw [if_pos g]; exact ⟨fun _ => by omega, fun _ => by cases op <;> decide⟩
  · rw [if_neg (by omega), if_pos g]; exact ⟨fun z => absurd z (by cases op <;> decide), fun z => by omega⟩
  · rw [if_neg (by omega), if_neg (by omega)]; exact ⟨fun z => absurd z (by cases op <;> decide), fun z => by omega⟩
theorem f_ge {a p : UInt64} (ha : a.toNat < 9218868437227405312) (hp : p.toNat < 9218868437227405312) (op : ClassFile.CmpOp) : 0 ≤ Op.cmpValue (FP.dcmp a p) op ↔ p.toNat ≤ a.toNat := by
  have := f_lt ha hp op
  rw [← Int32.not_lt, this]
  omega
/-- the law's scales -/
theorem f_law (v : Int32) : FP.Core.val64 (FP.dmul (FP.i2d v) 4593671619917905920) ≠ .nan := f_mul (f_i2d v) ((FP.Core.fin_bits _).mpr (by decide))
theorem f_add {a c : UInt64} (ha : ∃ s m q, FP.Core.val64 a = .fin s m q) (hc : ∃ s m q, FP.Core.val64 c = .fin s m q) : FP.Core.val64 (FP.dadd a c) ≠ .nan := by
  obtain ⟨s, m, q, e⟩ := ha
  obtain ⟨t, n, r, e2⟩ := hc
  rw [FP.Core.val64_dadd, e, e2]
  exact f_rr
/-- the normal number with these fields -/
def f_y (E t : Nat) : UInt64 := UInt64.ofNat (E * 2 ^ 52 + t)
theorem f_y_n {E t : Nat} (ht : t < 2 ^ 52) (h2 : E ≤ 2046) : (f_y E t).toNat = E * 2 ^ 52 + t := by
  unfold f_y
  rw [UInt64.toNat_ofNat', Nat.mod_eq_of_lt (by omega)]
theorem f_y_fin {E t : Nat} (ht : t < 2 ^ 52) (h1 : 1 ≤ E) (h2 : E ≤ 2046) : ∃ s m q, FP.Core.val64 (f_y E t) = .fin s m q := ⟨_, _, _, f_dec (f_y_n ht h2) ht h1 h2⟩
theorem f_y_v {E t : Nat} (ht : t < 2 ^ 52) (h1 : 1 ≤ E) (h2 : E ≤ 2046) : vf_n64 (f_y E t) := f_nan (by obtain ⟨s, m, q, e⟩ := f_y_fin ht h1 h2; rw [e]; intro z; cases z)
theorem f_y_half {E t : Nat} (ht : t < 2 ^ 52) (h1 : 1 ≤ E) (h2 : E ≤ 2045) : FP.dmul (f_y (E + 1) t) 4602678819172646912 = f_y E t := f_pow (f_y_n ht (by omega)) ht (by omega) (by omega) (K := 1022) (by decide) (by omega) (by omega) (F := E) (by omega) h1 (by omega) (f_y_n ht (by omega))
theorem f_y_hd {E t : Nat} (ht : t < 2 ^ 52) (h1 : 1 ≤ E) (h2 : E ≤ 2045) : FP.ddiv (f_y (E + 1) t) 4611686018427387904 = f_y E t := f_hdiv (f_y_n ht (by omega)) ht (by omega) (by omega) (f_y_n ht (by omega))
theorem f_y_dbl {E t : Nat} (ht : t < 2 ^ 52) (h1 : 1 ≤ E) (h2 : E ≤ 2045) : FP.dmul (f_y E t) 4611686018427387904 = f_y (E + 1) t := f_pow (f_y_n ht (by omega)) ht h1 (by omega) (K := 1024) (by decide) (by omega) (by omega) (F := E + 1) (by omega) (by omega) (by omega) (f_y_n ht (by omega))
theorem f_y_1 {E t : Nat} (ht : t < 2 ^ 52) (h2 : E ≤ 1100) (op : ClassFile.CmpOp) : Op.cmpValue (FP.dcmp (f_y E t) FP.dconst1) op < 0 ↔ E < 1023 := by
  rw [f_lt (by rw [f_y_n ht (by omega)]; omega) (by decide), f_y_n ht (by omega), show FP.dconst1.toNat = 1023 * 2 ^ 52 from rfl]
  omega
theorem f_y_5 {E t : Nat} (ht : t < 2 ^ 52) (h2 : E ≤ 1100) (op : ClassFile.CmpOp) : 0 ≤ Op.cmpValue (FP.dcmp (f_y E t) 4602678819172646912) op ↔ 1022 ≤ E := by
  rw [f_ge (by rw [f_y_n ht (by omega)]; omega) (by decide), f_y_n ht (by omega), show (4602678819172646912 : UInt64).toNat = 1022 * 2 ^ 52 from rfl]
  omega
theorem f_y_r {r : UInt64} (h : d_good r = true) : ∃ E t : Nat, (t < 2 ^ 52 ∧ 999 ≤ E ∧ E ≤ 1037) ∧ r = f_y E t ∧ s_fr r = f_y 1022 t ∧ s_ex r = nI E - 1022 := by
  obtain ⟨h1, h2, h3⟩ := d_good_b h
  refine ⟨r.toNat / 2 ^ 52, r.toNat % 2 ^ 52, ⟨Nat.mod_lt _ (by decide), h2, h3⟩, ?_, rfl, rfl⟩
  unfold f_y
  rw [Nat.mul_comm, Nat.div_add_mod, UInt64.ofNat_toNat]
theorem f_y_m {r : UInt64} {t : Nat} (ht : t < 2 ^ 52) (h : s_fr r = f_y 1022 t) : FP.d2l (FP.dadd (FP.dmul (f_y 1022 t) 4746794007248502784) 4602678819172646912) = s_m0 r ∧ vf_n64 (FP.dmul (f_y 1022 t) 4746794007248502784) ∧ vf_n64 (FP.dadd (FP.dmul (f_y 1022 t) 4746794007248502784) 4602678819172646912) := by
  have e : FP.dmul (f_y 1022 t) 4746794007248502784 = f_y 1053 t := f_pow (f_y_n ht (by omega)) ht (by omega) (by omega) (K := 1054) (by decide) (by omega) (by omega) (F := 1053) (by omega) (by omega) (by omega) (f_y_n ht (by omega))
  refine ⟨by unfold s_m0; rw [h], by rw [e]; exact f_y_v ht (by omega) (by omega), ?_⟩
  rw [e]
  exact f_nan (f_add (f_y_fin ht (by omega) (by omega)) ((FP.Core.fin_bits _).mpr (by decide)))
