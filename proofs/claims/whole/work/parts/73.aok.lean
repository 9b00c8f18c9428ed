/-! the law's scales; what a call keeps -/
theorem bad_ds {r : UInt64} (h : FP.Core.val64 r ≠ .nan) : badS r = !dsB r := by
  have v1 : FP.Core.val64 4696837146684686336 ≠ .nan := (FP.Core.ne_nan _).mpr (by decide)
  have e1 : Op.cmpValue (FP.dcmp r 4696837146684686336) .g = Op.cmpValue (FP.dcmp r 4696837146684686336) .l := by
    rw [show FP.dcmp r 4696837146684686336 = FP.Core.dcmp r 4696837146684686336 from rfl, FP.Core.dcmp_key h v1]
    generalize compare (FP.Core.dkey r) (FP.Core.dkey 4696837146684686336) = q
    cases q <;> rfl
  unfold badS dsB
  rw [e1]
  generalize Op.cmpValue (FP.dcmp r 4696837146684686336) .l = v
  generalize Op.cmpValue (FP.dcmp r FP.dconst0) .l = w
  have e2 : (¬ v ≤ 0) ↔ 0 < v := Int32.not_le
  by_cases h1 : w ≤ 0
  · rw [decide_eq_true h1, decide_eq_false (p := ¬ w ≤ 0) (fun z => z h1)]
    rfl
  · rw [decide_eq_false (p := w ≤ 0) h1, decide_eq_true (p := ¬ w ≤ 0) h1]
    by_cases h2 : 0 < v
    · rw [decide_eq_true (p := ¬ v ≤ 0) (e2.mpr h2), decide_eq_false (p := ¬ 0 < v) (fun z => z h2)]
      rfl
    · rw [decide_eq_false (p := ¬ v ≤ 0) (fun z => h2 (e2.mp z)), decide_eq_true (p := ¬ 0 < v) h2]
      rfl
theorem law_ds (v : Int32) : badS (FP.dmul (FP.i2d v) 4593671619917905920) = !dsB (FP.dmul (FP.i2d v) 4593671619917905920) := bad_ds (f_law v)
theorem b8_in8 (x : Int64) (k : Nat) : in8 (b8 x k) := by
  unfold b8
  rw [in8_i, Int8.toInt_toInt32]
  have h1 := Int8.toInt_lt (x >>> ((8 * (7 - nI k) : Int32).toInt64 &&& 63)).toInt32.toInt8
  have h2 := Int8.le_toInt (x >>> ((8 * (7 - nI k) : Int32).toInt64 &&& 63)).toInt32.toInt8
  omega
theorem spr_in8 {x : Int64} {L t : Nat} {f : Nat → Int32} (h : ∀ j, in8 (f j)) : ∀ j, in8 (spr x L t f j) := by
  intro j
  unfold spr stp
  split
  · exact b8_in8 _ _
  · exact h j
theorem aOK.s0 : aOK s0 := ⟨⟨Nat.zero_le _, fun i hi => absurd hi (Nat.not_lt_zero _), by decide⟩, (fun o h => by cases h), (fun h => by cases h), (fun _ => ⟨show (-128 : Int32) ≤ 0 by decide, show (0 : Int32) ≤ 127 by decide⟩), fun _ _ => ⟨show (-128 : Int32) ≤ 0 by decide, show (0 : Int32) ≤ 127 by decide⟩⟩
theorem aOK.weights {s : aS} (k : aOK s) (off : Int32) (x : Int64) : aOK (opWeights s off x).2.2 := by
  unfold opWeights
  split
  · obtain ⟨k1, k2, k3, k4, k5⟩ := k
    exact ⟨k1, k2, k3, spr_in8 k4, k5⟩
  · exact k
theorem aOK.weightScale {s : aS} (k : aOK s) (r : UInt64) : aOK (opWeightScale s r).2.2 := by
  unfold opWeightScale
  split
  · next h =>
    obtain ⟨⟨k0, k1, -⟩, k2⟩ := k
    exact ⟨⟨k0, k1, d_scl_iff.mp (dsB_iff.mp h)⟩, k2⟩
  · exact k
theorem aOK.output {s : aS} (k : aOK s) (x : Int32) : aOK (opOutput s x).2.2 := by
  unfold opOutput
  split
  · next h =>
    obtain ⟨j, hj, rfl⟩ := ndB_of k.1.1 h
    obtain ⟨k1, k2, k3, k4⟩ := k
    have hn := k1.1
    refine ⟨k1, fun o ho => ?_, (fun h => by cases h), k4⟩
    have ho : some (tN (nI j)) = some o := ho
    rw [tN_I (by omega)] at ho
    cases ho
    exact hj
  · exact k
theorem aOK.compile {s : aS} (k : aOK s) : aOK (opCompile s).2.2 := by
  unfold opCompile
  cases ho : s.out with
  | none => exact k
  | some o =>
    obtain ⟨k1, k2, k3, k4⟩ := k
    exact ⟨k1, k2, fun _ => ⟨o, ho⟩, k4⟩
theorem aOK.feed {s : aS} (k : aOK s) (x fr : Int32) (v : Int64) : aOK (opFeed s x fr v).2.2 := by
  unfold opFeed
  split
  · obtain ⟨k1, k2, k3, k4, k5⟩ := k
    refine ⟨k1, k2, k3, k4, fun i j => ?_⟩
    show in8 ((if i = tN x then spr v (s.N (tN x)).ce (tN fr) (s.fd (tN x)) else s.fd i) j)
    split
    · exact spr_in8 (k5 _) j
    · exact k5 i j
  · exact k
theorem aOK.run {s : aS} (k : aOK s) (a : Int32) : aOK (opRun s a).2.2 := by
  unfold opRun
  cases ho : s.out with
  | none => dsimp only; split <;> exact k
  | some o =>
    dsimp only
    split
    · exact k
    · split
      · exact k
      · split
        · exact k
        · exact k
