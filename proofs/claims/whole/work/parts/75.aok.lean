/-! what a call that makes a node keeps, the rest -/
theorem scO_new {N : Nat → aN} {n j : Nat} {x : aN} {o : Option Nat} (ho : o = some j) (hj : j < n) : scO (updN N n x) o = (N j).sc := by
  rw [ho]
  show (updN N n x j).sc = _
  rw [updN_lt hj]
theorem ratA_w {N : Nat → aN} {n j : Nat} {x : aN} (hk : x.kd = 1 ∨ x.kd = 2 ∨ x.kd = 3) (ho : x.one = some j) (hj : j < n) : ratA (updN N n x) n = FP.ddiv (FP.dmul (N j).sc x.ws) x.sc := by
  unfold ratA
  rw [updN_at, if_pos hk, scO_new ho hj]
theorem ratA_s {N : Nat → aN} {n j : Nat} {x : aN} (hk : x.kd = 4 ∨ x.kd = 10) (ho : x.one = some j) (hj : j < n) : ratA (updN N n x) n = FP.ddiv (N j).sc x.sc := by
  unfold ratA
  rw [updN_at, if_neg (by omega), if_pos hk, scO_new ho hj]
theorem ratB_s {N : Nat → aN} {n j : Nat} {x : aN} (hk : x.kd = 4) (ho : x.two = some j) (hj : j < n) : ratB (updN N n x) n = FP.ddiv (N j).sc x.sc := by
  unfold ratB
  rw [updN_at, if_pos hk, scO_new ho hj]
theorem shq_rf {x y : aN} (h1 : x.h = y.h) (h2 : x.w = y.w) (h3 : x.c = y.c) : shq x y = true := by
  unfold shq
  rw [Bool.and_eq_true, Bool.and_eq_true]
  exact ⟨⟨decide_eq_true h1, decide_eq_true h2⟩, decide_eq_true h3⟩
theorem aOK.rescale {s : aS} (k : aOK s) (p : Int32) (sc : UInt64) : aOK (opRescale s p sc).2.2 := by
  refine ok_mk3 k (fun hg hr hn => ?_)
  obtain ⟨hp, hs⟩ := and2.mp hg
  obtain ⟨j, hj, rfl⟩ := ndB_of k.1.1 hp
  have hn14 := k.1.1
  have hsc := d_scl_iff.mp (dsB_iff.mp hs)
  obtain ⟨⟨bj, nj, sj⟩, -⟩ := k.1.2.1 j hj
  rw [tN_I (show j < 2 ^ 31 by omega)] at hr ⊢
  unfold wfI
  rw [updN_at]
  refine ⟨⟨⟨⟨show 10 ≤ 10 by omega, bj.1.2.1, bj.1.2.2.1, bj.1.2.2.2.1, show 0 < 12 by decide, Nat.zero_le _⟩, hsc.2, Nat.zero_le _⟩, nj, hsc.1⟩, Or.inr (Or.inl ⟨j, ⟨rfl, hj⟩, rfl, ?_⟩)⟩
  rw [updN_lt hj, ratA_s (Or.inr rfl) rfl hj]
  exact Or.inr (Or.inr (Or.inr (Or.inr (Or.inr (Or.inr ⟨rfl, shq_rf rfl rfl rfl, hr⟩)))))
theorem aOK.add {s : aS} (k : aOK s) (p q : Int32) (sc : UInt64) : aOK (opAdd s p q sc).2.2 := by
  refine ok_mk3 k (fun hg hr hn => ?_)
  obtain ⟨hg', hq⟩ := and2.mp hg
  obtain ⟨hg', hs⟩ := and2.mp hg'
  obtain ⟨hp, hp2⟩ := and2.mp hg'
  obtain ⟨j, hj, rfl⟩ := ndB_of k.1.1 hp
  obtain ⟨i, hi, rfl⟩ := ndB_of k.1.1 hp2
  have hn14 := k.1.1
  have hsc := d_scl_iff.mp (dsB_iff.mp hs)
  obtain ⟨⟨bj, nj, sj⟩, -⟩ := k.1.2.1 j hj
  rw [tN_I (show j < 2 ^ 31 by omega), tN_I (show i < 2 ^ 31 by omega)] at hr hq ⊢
  have hr := and2.mp hr
  have hq := (shq_ce hq).1
  unfold wfI
  rw [updN_at]
  refine ⟨⟨⟨⟨show 4 ≤ 10 by omega, bj.1.2.1, bj.1.2.2.1, bj.1.2.2.2.1, show 0 < 12 by decide, Nat.zero_le _⟩, hsc.2, Nat.zero_le _⟩, nj, hsc.1⟩, Or.inr (Or.inr ⟨j, i, ⟨rfl, hj⟩, ⟨rfl, hi⟩, ?_⟩)⟩
  rw [updN_lt hj, updN_lt hi, ratA_s (Or.inl rfl) rfl hj, ratB_s rfl rfl hi]
  exact Or.inl ⟨rfl, shq_rf rfl rfl rfl, shq_rf hq.1.symm hq.2.1.symm hq.2.2.symm, hr.1, hr.2⟩
theorem aOK.concat {s : aS} (k : aOK s) (p q : Int32) : aOK (opConcat s p q).2.2 := by
  refine ok_mk2 k (fun hg hn => ?_)
  obtain ⟨hg', h8⟩ := and2.mp hg
  obtain ⟨hg', hsz⟩ := and2.mp hg'
  obtain ⟨hp, hp2⟩ := and2.mp hg'
  obtain ⟨hsz, hs⟩ := and2.mp hsz
  obtain ⟨hh, hw⟩ := and2.mp hsz
  obtain ⟨j, hj, rfl⟩ := ndB_of k.1.1 hp
  obtain ⟨i, hi, rfl⟩ := ndB_of k.1.1 hp2
  have hn14 := k.1.1
  obtain ⟨⟨bj, nj, sj⟩, -⟩ := k.1.2.1 j hj
  rw [tN_I (show j < 2 ^ 31 by omega), tN_I (show i < 2 ^ 31 by omega)] at h8 hs hh hw ⊢
  have h8 := of_decide_eq_true h8
  have hs := of_decide_eq_true hs
  have hh := of_decide_eq_true hh
  have hw := of_decide_eq_true hw
  unfold wfI
  rw [updN_at]
  refine ⟨⟨⟨⟨show 5 ≤ 10 by omega, bj.1.2.1, bj.1.2.2.1, h8, show 0 < 12 by decide, Nat.zero_le _⟩, bj.2.1, Nat.zero_le _⟩, ⟨nj.1, nj.2.1, Nat.le_trans nj.2.2 (Nat.le_add_right _ _)⟩, sj⟩, Or.inr (Or.inr ⟨j, i, ⟨rfl, hj⟩, ⟨rfl, hi⟩, ?_⟩)⟩
  rw [updN_lt hj, updN_lt hi]
  exact Or.inr ⟨rfl, ⟨rfl, rfl, hh, hw⟩, rfl, rfl, hs⟩
