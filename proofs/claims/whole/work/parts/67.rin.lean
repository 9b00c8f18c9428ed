/-! every value is a byte -/
theorem in8_i {x : Int32} : in8 x ↔ -128 ≤ x.toInt ∧ x.toInt ≤ 127 := by
  unfold in8
  rw [Int32.le_iff_toInt_le, Int32.le_iff_toInt_le, show (-128 : Int32).toInt = -128 from rfl, show (127 : Int32).toInt = 127 from rfl]
theorem cut_in8 (v : Int64) : in8 (s_cut v) := by
  rw [← cut_eq]
  have a1 : (-128 : Int64).toInt = -128 := rfl
  have a2 : (127 : Int64).toInt = 127 := rfl
  by_cases h1 : v < -128
  · rw [if_pos h1]; exact ⟨by decide, by decide⟩
  · rw [if_neg h1]
    by_cases h2 : 127 < v
    · rw [if_pos h2]; exact ⟨by decide, by decide⟩
    · rw [if_neg h2, in8_i]
      rw [Int64.lt_iff_toInt_lt] at h1 h2
      rw [Int64.toInt_toInt32, Int.bmod_def]
      omega
theorem clp_in8 {lo hi v : Int32} (h1 : -128 ≤ lo) (h2 : lo ≤ hi) (h3 : hi ≤ 127) : in8 (s_clp lo hi v) := by
  unfold s_clp i_max i_min
  by_cases h4 : v < hi
  · rw [if_pos h4]
    by_cases h5 : lo < v
    · rw [if_pos h5]; exact ⟨Int32.le_trans h1 (Int32.le_of_lt h5), Int32.le_trans (Int32.le_of_lt h4) h3⟩
    · rw [if_neg h5]; exact ⟨h1, Int32.le_trans h2 h3⟩
  · rw [if_neg h4]
    by_cases h5 : lo < hi
    · rw [if_pos h5]; exact ⟨Int32.le_trans h1 h2, h3⟩
    · rw [if_neg h5]; exact ⟨h1, Int32.le_trans h2 h3⟩
theorem max_in8 {x y : Int32} (hx : in8 x) (hy : in8 y) : in8 (i_max x y) := by
  unfold i_max
  split
  · exact hy
  · exact hx
theorem avg_in8 {s : Int32} {n : Nat} (hn : 1 ≤ n ∧ n ≤ 16) (h1 : -128 * (n : Int) ≤ s.toInt) (h2 : s.toInt ≤ 127 * (n : Int)) : in8 (s_avg s (nI n)) := by
  have en := nI_toInt (n := n) (by omega)
  have nz : ¬ nI n = 0 := nI_ne0 (by omega) (by omega)
  have i2 : (2 : Int32).toInt = 2 := rfl
  have q2 : (2 * nI n).toInt = ((2 * n : Nat) : Int) := by rw [i_mul i2 en (by omega)]; omega
  have h0 : 0 ≤ s ↔ ¬ s.toInt < 0 := by rw [Int32.le_iff_toInt_le, show (0 : Int32).toInt = 0 from rfl]; omega
  have q1 : (if 0 ≤ s then s else 0 - s).toInt = s.toInt.natAbs := by
    by_cases h : 0 ≤ s
    · have := h0.mp h
      rw [if_pos h]; omega
    · have : s.toInt < 0 := Decidable.not_not.mp (mt h0.mpr h)
      rw [if_neg h, i_sub (show (0 : Int32).toInt = 0 from rfl) rfl (by omega)]; omega
  have qa : (2 * (if 0 ≤ s then s else 0 - s)).toInt = ((2 * s.toInt.natAbs : Nat) : Int) := by rw [i_mul i2 q1 (by omega)]; omega
  have qs : (2 * (if 0 ≤ s then s else 0 - s) + nI n).toInt = ((2 * s.toInt.natAbs + n : Nat) : Int) := by rw [i_add qa en (by omega)]; omega
  have qd := i_div qs q2 (by omega)
  unfold s_avg
  rw [if_neg nz]
  by_cases h : 0 ≤ s
  · have := h0.mp h
    have hw : (2 * s.toInt.natAbs + n) / (2 * n) ≤ 127 := by
      have : (2 * s.toInt.natAbs + n) / (2 * n) < 128 := Nat.div_lt_of_lt_mul (by omega)
      omega
    rw [if_pos h, in8_i, qd]
    generalize (2 * s.toInt.natAbs + n) / (2 * n) = w at hw
    omega
  · have : s.toInt < 0 := Decidable.not_not.mp (mt h0.mpr h)
    have hw : (2 * s.toInt.natAbs + n) / (2 * n) ≤ 128 := by
      have : (2 * s.toInt.natAbs + n) / (2 * n) < 129 := Nat.div_lt_of_lt_mul (by omega)
      omega
    generalize (2 * s.toInt.natAbs + n) / (2 * n) = w at hw qd
    rw [if_neg h, in8_i, i_neg qd (by omega)]
    omega
theorem itw_all {α : Type} {g : wP} {y x : Nat} {s : Nat → Nat → α → α} {P : α → Prop} (hs : ∀ r c a, r < w_r1 g y → c < w_c1 g x → P a → P (s r c a)) {a : α} (h : P a) : P (itw g y x s a) := by
  unfold itw
  exact itr_rel (P := fun _ (a : α) (_ : Unit) => P a) (t := fun _ u => u) _ _ a () h (fun r a _ h1 h2 ha => itr_rel (P := fun _ (a : α) (_ : Unit) => P a) (t := fun _ u => u) _ _ a () ha (fun c a _ h3 h4 ha => hs r c a (by omega) (by omega) ha))
theorem vR_in8 {X : rX} {n j : Nat} (V : vOK X n) (hj : j < (X.N n).ce) (hfd : ∀ z, in8 (X.fe (128 * n + z))) : in8 (vR X n j) := by
  obtain ⟨⟨hno, hn, hwf, hS⟩, hw8, h81, h82⟩ := id V
  obtain ⟨⟨bn, ⟨n1, n2, n3⟩, nsc⟩, hkind⟩ := hwf n hn
  obtain ⟨y1, x1, c1⟩ := yxc (show j < (X.N n).h * (X.N n).w * (X.N n).c from hj)
  rcases hkind with ⟨hk, -, -⟩ | ⟨a, ⟨ho, ha⟩, ht, hK⟩ | ⟨a, a2, ⟨ho, ha⟩, ⟨ht, ha2⟩, hK⟩
  · unfold vR vI vNode
    rw [if_pos hk]
    exact hfd j
  · obtain ⟨s1l, ⟨s1h, s1w, s1c⟩, s1ce, s1sc⟩ := V.s (show a < X.no by omega)
    have bs := wfN.bd hwf (stS X.N a) (by omega)
    have f8 : ∀ z, z < (X.N (stS X.N a)).ce → in8 (X.ce (128 * stS X.N a + z)) := fun z hz => h81 a ho z (by rw [s1ce]; exact hz)
    rw [vR_o V ho (show a < X.no by omega)]
    have win : (X.N n).kd ≠ 0 → (X.N n).kd ≠ 3 → (X.N n).kd ≠ 4 → (X.N n).kd ≠ 5 → (X.N n).kd ≠ 6 → (X.N n).kd ≠ 9 → (X.N n).kd ≠ 10 → winG (X.N n) (X.N a) → ((X.N n).kd = 7 ∨ (X.N n).kd = 8 → (X.N n).c = (X.N a).c) → in8 (vNode (X.N n) (X.N (stS X.N a)) X.w (ratA X.N n) (ratB X.N n) (fun z => X.fe (128 * n + z)) (fun z => X.ce (128 * stS X.N a + z)) (caR X (X.N n).two) j) := by
      intro k0 k3 k4 k5 k6 k9 k10 hG hc
      have hK4 : rwK X n (stS X.N a) (j / (X.N n).c / (X.N n).w) (j / (X.N n).c % (X.N n).w) := ⟨⟨by omega, by omega⟩, winG_congr s1h s1w hG, ⟨bn, bs⟩, ⟨by rw [← s1h]; exact (hwf a (by omega)).1.2.1.1, by rw [← s1w]; exact (hwf a (by omega)).1.2.1.2.1⟩, y1, x1⟩
      unfold vNode G_win v_win
      rw [if_neg k0, if_neg k3, if_neg k4, if_neg k5, if_neg k6, if_neg k9, if_neg k10]
      by_cases k1 : (X.N n).kd = 1
      · rw [if_pos k1]; exact cut_in8 _
      · rw [if_neg k1]
        by_cases k2 : (X.N n).kd = 2
        · rw [if_pos k2]; exact cut_in8 _
        · rw [if_neg k2]
          have hcc : j % (X.N n).c < (X.N (stS X.N a)).c := by
            have := bn.1.1
            rw [← s1c, ← hc (by
              have h7 : (X.N n).kd = 7 ∨ (X.N n).kd = 8 := by omega
              exact h7)]
            exact c1
          obtain ⟨⟨p1, p2⟩, ⟨q1, q2⟩, q3, q4⟩ := hK4.w
          have hix : ∀ r c, r < w_r1 (gOf (X.N n) (X.N (stS X.N a))) (j / (X.N n).c / (X.N n).w) → c < w_c1 (gOf (X.N n) (X.N (stS X.N a))) (j / (X.N n).c % (X.N n).w) → in8 (X.ce (128 * stS X.N a + (0 + ((r * (X.N (stS X.N a)).w + c) * (X.N (stS X.N a)).c + j % (X.N n).c)))) := fun r c h1 h2 => by
            rw [Nat.zero_add]
            exact f8 _ (ix3 (A := (X.N (stS X.N a)).h) (by omega) (by omega) hcc)
          by_cases k7 : (X.N n).kd = 7
          · rw [if_pos k7]
            exact itw_all (P := in8) (fun r c s h1 h2 hs => max_in8 hs (hix r c h1 h2)) ⟨by decide, by decide⟩
          · rw [if_neg k7]
            have hpo := po_eq hK4 hcc f8 _ (rfl : _ = itr (jst (gOf (X.N n) (X.N (stS X.N a))) (j / (X.N n).c / (X.N n).w) (j / (X.N n).c % (X.N n).w) (poS X (stS X.N a) (j % (X.N n).c))) ((gOf (X.N n) (X.N (stS X.N a))).k * (gOf (X.N n) (X.N (stS X.N a))).k) 0 ((-129, 0, 0) : Int32 × Int32 × Nat))
            have hcn := hpo.1
            rw [hpo.2.2.1] at hcn
            have hb := itr_rel (P := fun r (q : Int32 × Nat) (_ : Unit) => q.2 ≤ (r - w_r0 (gOf (X.N n) (X.N (stS X.N a))) (j / (X.N n).c / (X.N n).w)) * 3 ∧ -128 * (q.2 : Int) ≤ q.1.toInt ∧ q.1.toInt ≤ 127 * (q.2 : Int)) (s := fun r a_1 => itr ((fun r c (q : Int32 × Nat) => (q.1 + X.ce (128 * stS X.N a + (0 + ((r * (X.N (stS X.N a)).w + c) * (X.N (stS X.N a)).c + j % (X.N n).c))), q.2 + 1)) r) (w_c1 (gOf (X.N n) (X.N (stS X.N a))) (j / (X.N n).c % (X.N n).w) - w_c0 (gOf (X.N n) (X.N (stS X.N a))) (j / (X.N n).c % (X.N n).w)) (w_c0 (gOf (X.N n) (X.N (stS X.N a))) (j / (X.N n).c % (X.N n).w)) a_1) (t := fun _ u => u) (w_r1 (gOf (X.N n) (X.N (stS X.N a))) (j / (X.N n).c / (X.N n).w) - w_r0 (gOf (X.N n) (X.N (stS X.N a))) (j / (X.N n).c / (X.N n).w)) (w_r0 (gOf (X.N n) (X.N (stS X.N a))) (j / (X.N n).c / (X.N n).w)) ((0, 0) : Int32 × Nat) () ⟨by show 0 ≤ _; omega, by show -128 * ((0 : Nat) : Int) ≤ (0 : Int32).toInt; decide, by show (0 : Int32).toInt ≤ 127 * ((0 : Nat) : Int); decide⟩ (fun r q _ h1 h2 hq => by
              have h3 := itr_rel (P := fun c (q : Int32 × Nat) (_ : Unit) => q.2 ≤ (r - w_r0 (gOf (X.N n) (X.N (stS X.N a))) (j / (X.N n).c / (X.N n).w)) * 3 + (c - w_c0 (gOf (X.N n) (X.N (stS X.N a))) (j / (X.N n).c % (X.N n).w)) ∧ -128 * (q.2 : Int) ≤ q.1.toInt ∧ q.1.toInt ≤ 127 * (q.2 : Int)) (s := fun c (q : Int32 × Nat) => (q.1 + X.ce (128 * stS X.N a + (0 + ((r * (X.N (stS X.N a)).w + c) * (X.N (stS X.N a)).c + j % (X.N n).c))), q.2 + 1)) (t := fun _ u => u) (w_c1 (gOf (X.N n) (X.N (stS X.N a))) (j / (X.N n).c % (X.N n).w) - w_c0 (gOf (X.N n) (X.N (stS X.N a))) (j / (X.N n).c % (X.N n).w)) (w_c0 (gOf (X.N n) (X.N (stS X.N a))) (j / (X.N n).c % (X.N n).w)) q () ⟨by omega, hq.2⟩ (fun c q _ h4 h5 hq => by
                have h8 := in8_i.mp (hix r c (by omega) (by omega))
                have e := i_add (a := q.1) (b := X.ce (128 * stS X.N a + (0 + ((r * (X.N (stS X.N a)).w + c) * (X.N (stS X.N a)).c + j % (X.N n).c)))) rfl rfl (by omega)
                refine ⟨by show q.2 + 1 ≤ _; omega, ?_, ?_⟩
                · show -128 * ((q.2 + 1 : Nat) : Int) ≤ (q.1 + _).toInt
                  rw [e]; omega
                · show (q.1 + _).toInt ≤ 127 * ((q.2 + 1 : Nat) : Int)
                  rw [e]; omega)
              exact ⟨Nat.le_trans h3.1 (by omega), h3.2⟩)
            exact avg_in8 ⟨hcn.1, Nat.le_trans hcn.2 (by omega)⟩ hb.2.1 hb.2.2
    rcases hK with ⟨hk, hK⟩ | ⟨hk, hK⟩ | ⟨hk, hK⟩ | ⟨hk, hK⟩ | ⟨hk, hK⟩ | ⟨hk, hK⟩ | ⟨hk, hK⟩
    · exact win (by omega) (by omega) (by omega) (by omega) (by omega) (by omega) (by omega) hK.1 (fun z => by omega)
    · exact win (by omega) (by omega) (by omega) (by omega) (by omega) (by omega) (by omega) hK.1 (fun z => by omega)
    · unfold vNode
      rw [if_neg (by omega), if_pos hk]
      exact cut_in8 _
    · unfold vNode
      rw [if_neg (by omega), if_neg (by omega), if_neg (by omega), if_neg (by omega), if_pos hk]
      exact f8 j (by rw [← s1ce, ← hK.1]; exact hj)
    · exact win (by omega) (by omega) (by omega) (by omega) (by omega) (by omega) (by omega) hK.1 (fun _ => hK.2.1)
    · unfold vNode
      rw [if_neg (by omega), if_neg (by omega), if_neg (by omega), if_neg (by omega), if_neg (by omega), if_pos hk]
      exact clp_in8 hK.2.2.1 hK.2.2.2.1 hK.2.2.2.2
    · unfold vNode
      rw [if_neg (by omega), if_neg (by omega), if_neg (by omega), if_neg (by omega), if_neg (by omega), if_neg (by omega), if_pos hk]
      exact cut_in8 _
  · obtain ⟨s1l, ⟨s1h, s1w, s1c⟩, s1ce, s1sc⟩ := V.s (show a < X.no by omega)
    obtain ⟨s2l, ⟨s2h, s2w, s2c⟩, s2ce, s2sc⟩ := V.s (show a2 < X.no by omega)
    rw [vR_o V ho (show a < X.no by omega)]
    rcases hK with ⟨hk, hK⟩ | ⟨hk, hK⟩
    · unfold vNode
      rw [if_neg (by omega), if_neg (by omega), if_pos hk]
      exact cut_in8 _
    · unfold vNode
      rw [if_neg (by omega), if_neg (by omega), if_neg (by omega), if_pos hk, ht]
      have hjc : j / (X.N n).c < (X.N n).h * (X.N n).w := Nat.div_lt_of_lt_mul (by rw [Nat.mul_comm]; exact hj)
      by_cases hc : j % (X.N n).c < (X.N (stS X.N a)).c
      · rw [if_pos hc]
        exact h81 a ho _ (by rw [s1ce]; show _ < (X.N (stS X.N a)).h * (X.N (stS X.N a)).w * (X.N (stS X.N a)).c; rw [← s1h, ← s1w, ← hK.1.1, ← hK.1.2.1]; exact ix2 hjc hc)
      · rw [if_neg hc]
        exact h82 a2 ht _ (by rw [s2ce]; show _ < (X.N (stS X.N a2)).h * (X.N (stS X.N a2)).w * (X.N (stS X.N a2)).c; rw [← s2h, ← s2w, ← hK.1.2.2.1, ← hK.1.2.2.2, show (X.N (stS X.N a2)).c = (X.N n).c - (X.N (stS X.N a)).c by rw [← s2c, ← s1c]; have := hK.2.1; omega]; exact ix2 hjc (by omega))
