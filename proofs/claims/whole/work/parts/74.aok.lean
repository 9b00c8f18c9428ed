/-! what a call that makes a node keeps -/
theorem wfI_congr {N N' : Nat → aN} {i : Nat} (h : ∀ j, j ≤ i → N' j = N j) (k : wfI N i) : wfI N' i := by
  have ei := h i (Nat.le_refl _)
  obtain ⟨k1, k2⟩ := k
  unfold wfI
  rw [ei]
  refine ⟨k1, ?_⟩
  rcases k2 with k2 | ⟨a, ⟨h1, h2⟩, h3, k2⟩ | ⟨a, c, ⟨h1, h2⟩, ⟨h3, h4⟩, k2⟩
  · exact Or.inl k2
  · refine Or.inr (Or.inl ⟨a, ⟨h1, h2⟩, h3, ?_⟩)
    rw [h a (by omega), ratA_congr h (fun z hz => by rw [h1] at hz; cases hz; exact h2)]
    exact k2
  · refine Or.inr (Or.inr ⟨a, c, ⟨h1, h2⟩, ⟨h3, h4⟩, ?_⟩)
    rw [h a (by omega), h c (by omega), ratA_congr h (fun z hz => by rw [h1] at hz; cases hz; exact h2), ratB_congr h (fun z hz => by rw [h3] at hz; cases hz; exact h4)]
    exact k2
theorem aOK.push {s : aS} (k : aOK s) (hn : ¬ s.n = 14) {x : aN} (hx : wfI (updN s.N s.n x) s.n) : aOK (s.push x) := by
  obtain ⟨⟨k0, k1, k2⟩, k3, k4, k5, k6⟩ := k
  refine ⟨⟨?_, fun i hi => ?_, k2⟩, fun o ho => ?_, (fun h => by cases h), k5, fun i j => ?_⟩
  · show s.n + 1 ≤ 14
    omega
  · show wfI (updN s.N s.n x) i
    have hi : i < s.n + 1 := hi
    by_cases hz : i = s.n
    · rw [hz]; exact hx
    · exact wfI_congr (fun j hj => if_neg (by omega)) (k1 i (by omega))
  · have := k3 o ho
    show o < s.n + 1
    omega
  · show in8 ((if i = s.n then fun _ => 0 else s.fd i) j)
    split
    · exact ⟨show (-128 : Int32) ≤ 0 by decide, show (0 : Int32) ≤ 127 by decide⟩
    · exact k6 i j
theorem ok_mk2 {s : aS} (k : aOK s) {g : Bool} {x : aN} (hx : g = true → ¬ s.n = 14 → wfI (updN s.N s.n x) s.n) : aOK (mk2 s g x).2.2 := by
  by_cases hg : g = true
  · by_cases hn : s.n = 14
    · rw [mk2_2 hg hn]; exact k
    · rw [mk2_0 hg hn]; exact k.push hn (hx hg hn)
  · rw [mk2_1 hg]; exact k
theorem ok_mk3 {s : aS} (k : aOK s) {g r : Bool} {x : aN} (hx : g = true → r = true → ¬ s.n = 14 → wfI (updN s.N s.n x) s.n) : aOK (mk3 s g r x).2.2 := by
  by_cases hg : g = true
  · by_cases hr : r = true
    · by_cases hn : s.n = 14
      · rw [mk3_3 hg hr hn]; exact k
      · rw [mk3_0 hg hr hn]; exact k.push hn (hx hg hr hn)
    · rw [mk3_2 hg hr]; exact k
  · rw [mk3_1 hg]; exact k
theorem aOK.input {s : aS} (k : aOK s) (x y z : Int32) (sc : UInt64) : aOK (opInput s x y z sc).2.2 := by
  refine ok_mk2 k (fun hg hn => ?_)
  obtain ⟨hg', hs⟩ := and2.mp hg
  obtain ⟨hg', hz⟩ := and2.mp hg'
  obtain ⟨hx, hy⟩ := and2.mp hg'
  obtain ⟨x, ⟨x1, x2⟩, rfl⟩ := bt1K (m := 4) (by omega) (btB_iff.mp hx)
  obtain ⟨y, ⟨y1, y2⟩, rfl⟩ := bt1K (m := 4) (by omega) (btB_iff.mp hy)
  obtain ⟨z, ⟨z1, z2⟩, rfl⟩ := bt1K (m := 8) (by omega) (btB_iff.mp hz)
  have hsc := d_scl_iff.mp (dsB_iff.mp hs)
  rw [tN_I (show x < 2 ^ 31 by omega), tN_I (show y < 2 ^ 31 by omega), tN_I (show z < 2 ^ 31 by omega)]
  unfold wfI
  rw [updN_at]
  exact ⟨⟨⟨⟨Nat.zero_le _, x2, y2, z2, show 0 < 12 by decide, Nat.zero_le _⟩, hsc.2, Nat.zero_le _⟩, ⟨x1, y1, z1⟩, hsc.1⟩, Or.inl ⟨rfl, rfl, rfl⟩⟩
/-- the new node sees the old ones -/
theorem updN_lt {N : Nat → aN} {n j : Nat} {x : aN} (h : j < n) : updN N n x j = N j := if_neg (by omega)
theorem aOK.reshape {s : aS} (k : aOK s) (p x y z : Int32) : aOK (opReshape s p x y z).2.2 := by
  refine ok_mk2 k (fun hg hn => ?_)
  obtain ⟨hg', hc⟩ := and2.mp hg
  obtain ⟨hp, hg'⟩ := and2.mp hg'
  obtain ⟨hg', hz⟩ := and2.mp hg'
  obtain ⟨hx, hy⟩ := and2.mp hg'
  obtain ⟨j, hj, rfl⟩ := ndB_of k.1.1 hp
  have hn14 := k.1.1
  obtain ⟨x, ⟨x1, x2⟩, rfl⟩ := bt1K (m := 4) (by omega) (btB_iff.mp hx)
  obtain ⟨y, ⟨y1, y2⟩, rfl⟩ := bt1K (m := 4) (by omega) (btB_iff.mp hy)
  obtain ⟨z, ⟨z1, z2⟩, rfl⟩ := bt1K (m := 8) (by omega) (btB_iff.mp hz)
  have hc := of_decide_eq_true hc
  obtain ⟨⟨bj, nj, sj⟩, -⟩ := k.1.2.1 j hj
  have hxy : x * y * z ≤ 128 := Nat.le_trans (Nat.mul_le_mul (Nat.mul_le_mul x2 y2) z2) (by omega)
  rw [tN_I (show j < 2 ^ 31 by omega), pk_mul, pk_mul] at hc
  have hc := (nI_eq (by omega) (by have := bj.ce; omega)).mp hc
  rw [tN_I (show j < 2 ^ 31 by omega), tN_I (show x < 2 ^ 31 by omega), tN_I (show y < 2 ^ 31 by omega), tN_I (show z < 2 ^ 31 by omega)]
  unfold wfI
  rw [updN_at]
  refine ⟨⟨⟨⟨show 6 ≤ 10 by omega, x2, y2, z2, show 0 < 12 by decide, Nat.zero_le _⟩, bj.2.1, Nat.zero_le _⟩, ⟨x1, y1, z1⟩, sj⟩, Or.inr (Or.inl ⟨j, ⟨rfl, hj⟩, rfl, ?_⟩)⟩
  rw [updN_lt hj]
  exact Or.inr (Or.inr (Or.inr (Or.inl ⟨rfl, hc, rfl⟩)))
theorem aOK.clamp {s : aS} (k : aOK s) (p lo hi : Int32) : aOK (opClamp s p lo hi).2.2 := by
  refine ok_mk2 k (fun hg hn => ?_)
  obtain ⟨hg', hl⟩ := and2.mp hg
  obtain ⟨hp, hh⟩ := and2.mp hg'
  obtain ⟨j, hj, rfl⟩ := ndB_of k.1.1 hp
  have hn14 := k.1.1
  have hl := btB_iff.mp hl
  have hh := btB_iff.mp hh
  obtain ⟨⟨bj, nj, sj⟩, -⟩ := k.1.2.1 j hj
  rw [tN_I (show j < 2 ^ 31 by omega)]
  unfold wfI
  rw [updN_at]
  refine ⟨⟨⟨⟨show 9 ≤ 10 by omega, bj.1.2.1, bj.1.2.2.1, bj.1.2.2.2.1, show 0 < 12 by decide, Nat.zero_le _⟩, bj.2.1, Nat.zero_le _⟩, nj, sj⟩, Or.inr (Or.inl ⟨j, ⟨rfl, hj⟩, rfl, ?_⟩)⟩
  rw [updN_lt hj]
  refine Or.inr (Or.inr (Or.inr (Or.inr (Or.inr (Or.inl ⟨rfl, ?_, rfl, hl.1, hl.2, hh.2⟩)))))
  unfold shq
  rw [Bool.and_eq_true, Bool.and_eq_true]
  exact ⟨⟨decide_eq_true rfl, decide_eq_true rfl⟩, decide_eq_true rfl⟩
