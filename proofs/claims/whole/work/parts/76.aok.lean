/-! dense, pool, windows -/
theorem off_le {off : Int32} {m : Nat} (hm : m ≤ 5000) (h : btB off 0 (512 - nI m) = true) : ∃ f : Nat, off = nI f ∧ f + m ≤ 512 := by
  have hb := btB_iff.mp h
  obtain ⟨f, hf, rfl⟩ := nI_of (Int32.not_lt.mpr hb.1)
  refine ⟨f, rfl, ?_⟩
  have h2 := hb.2
  rw [Int32.le_iff_toInt_le, nI_toInt hf, i_sub (show (512 : Int32).toInt = 512 from rfl) (nI_toInt (by omega)) (by omega)] at h2
  omega
theorem aOK.dense {s : aS} (k : aOK s) (p d off : Int32) (sc : UInt64) : aOK (opDense s p d off sc).2.2 := by
  refine ok_mk3 k (fun hg hr hn => ?_)
  obtain ⟨hg', hof⟩ := and2.mp hg
  obtain ⟨hg', hs⟩ := and2.mp hg'
  obtain ⟨hp, hd⟩ := and2.mp hg'
  obtain ⟨j, hj, rfl⟩ := ndB_of k.1.1 hp
  have hn14 := k.1.1
  have hsc := d_scl_iff.mp (dsB_iff.mp hs)
  obtain ⟨d, ⟨d1, d2⟩, rfl⟩ := bt1K (m := 8) (by omega) (btB_iff.mp hd)
  obtain ⟨⟨bj, nj, sj⟩, -⟩ := k.1.2.1 j hj
  have hce := bj.ce
  have hm : d * (s.N j).ce ≤ 8 * 128 := Nat.mul_le_mul d2 hce
  rw [tN_I (show j < 2 ^ 31 by omega)] at hr hof ⊢
  rw [pk_mul, sub_2] at hof
  obtain ⟨f, rfl, hf⟩ := off_le (by omega) hof
  rw [tN_I (show d < 2 ^ 31 by omega), tN_I (show f < 2 ^ 31 by omega)]
  unfold wfI
  rw [updN_at]
  refine ⟨⟨⟨⟨show 3 ≤ 10 by omega, show 1 ≤ 4 by omega, show 1 ≤ 4 by omega, d2, show 0 < 12 by decide, show f ≤ 512 by omega⟩, hsc.2, k.1.2.2.2⟩, ⟨Nat.le_refl _, Nat.le_refl _, d1⟩, hsc.1⟩, Or.inr (Or.inl ⟨j, ⟨rfl, hj⟩, rfl, ?_⟩)⟩
  rw [updN_lt hj, ratA_w (Or.inr (Or.inr rfl)) rfl hj]
  exact Or.inr (Or.inr (Or.inl ⟨rfl, ⟨rfl, rfl⟩, show f + d * (s.N j).ce + d ≤ 512 by omega, hr⟩))
theorem winG_new {n o : aN} (hc : n.co < 12) (h1 : 1 ≤ o.h) (w1 : 1 ≤ o.w) (h4 : o.h ≤ 4) (w4 : o.w ≤ 4) (fh : z_fit n.co o.h = true) (fw : z_fit n.co o.w = true) (eh : n.h = z_plc n.co o.h) (ew : n.w = z_plc n.co o.w) : winG n o := by
  have p1 := z_plc_ok h1 fh
  have p2 := z_plc_ok w1 fw
  rw [← eh] at p1
  rw [← ew] at p2
  exact ⟨⟨⟨hc, p1.2.1, p2.2.1, by omega, by omega⟩, p1.1, p2.1, h4, w4⟩, ⟨eh, ew⟩, fh, fw⟩
theorem aOK.pool {s : aS} (k : aOK s) (p code avg : Int32) : aOK (opPool s p code avg).2.2 := by
  refine ok_mk2 k (fun hg hn => ?_)
  obtain ⟨hg', hf⟩ := and2.mp hg
  obtain ⟨hp, hc⟩ := and2.mp hg'
  obtain ⟨j, hj, rfl⟩ := ndB_of k.1.1 hp
  have hn14 := k.1.1
  obtain ⟨c, hc, rfl⟩ := btwK (m := 11) rfl (by omega) (btB_iff.mp hc)
  obtain ⟨⟨bj, nj, sj⟩, -⟩ := k.1.2.1 j hj
  rw [tN_I (show j < 2 ^ 31 by omega), tN_I (show c < 2 ^ 31 by omega)] at hf
  rw [tN_I (show j < 2 ^ 31 by omega), tN_I (show c < 2 ^ 31 by omega)]
  have hf := and2.mp hf
  have p1 := z_plc_ok nj.1 hf.1
  have p2 := z_plc_ok nj.2.1 hf.2
  have b1 := bj.1.2.1
  have b2 := bj.1.2.2.1
  unfold wfI
  rw [updN_at]
  refine ⟨⟨⟨⟨show (if avg = 0 then 7 else 8) ≤ 10 by split <;> omega, show z_plc c _ ≤ 4 by omega, show z_plc c _ ≤ 4 by omega, bj.1.2.2.2.1, show c < 12 by omega, Nat.zero_le _⟩, bj.2.1, Nat.zero_le _⟩, ⟨p1.2.1, p2.2.1, nj.2.2⟩, sj⟩, Or.inr (Or.inl ⟨j, ⟨rfl, hj⟩, rfl, ?_⟩)⟩
  rw [updN_lt hj]
  refine Or.inr (Or.inr (Or.inr (Or.inr (Or.inl ⟨?_, winG_new (show c < 12 by omega) nj.1 nj.2.1 b1 b2 hf.1 hf.2 rfl rfl, rfl, rfl⟩))))
  show (if avg = 0 then 7 else 8) = 7 ∨ (if avg = 0 then 7 else 8) = 8
  split
  · exact Or.inl rfl
  · exact Or.inr rfl
theorem aOK.windows {s : aS} (k : aOK s) (p code dw off : Int32) (sc : UInt64) : aOK (opWindows s p code dw off sc).2.2 := by
  refine ok_mk3 k (fun hg hr hn => ?_)
  obtain ⟨hg', hof⟩ := and2.mp hg
  obtain ⟨hg', hf⟩ := and2.mp hg'
  obtain ⟨hg', hs⟩ := and2.mp hg'
  obtain ⟨hp, hc⟩ := and2.mp hg'
  obtain ⟨j, hj, rfl⟩ := ndB_of k.1.1 hp
  have hn14 := k.1.1
  have hsc := d_scl_iff.mp (dsB_iff.mp hs)
  obtain ⟨⟨bj, nj, sj⟩, -⟩ := k.1.2.1 j hj
  rw [tN_I (show j < 2 ^ 31 by omega)] at hr hof hf ⊢
  have hf := and2.mp hf
  have p1 := z_plc_ok nj.1 hf.1
  have p2 := z_plc_ok nj.2.1 hf.2
  have b1 := bj.1.2.1
  have b2 := bj.1.2.2.1
  have b3 := bj.1.2.2.2.1
  have hco : wCo code < 12 := Nat.mod_lt _ (by decide)
  have hsz : z_size (wCo code) ≤ 3 := by unfold z_size; omega
  have hkk : z_size (wCo code) * z_size (wCo code) ≤ 9 := Nat.mul_le_mul hsz hsz
  by_cases hd : dw = 0
  · rw [if_pos hd] at hc
    have hcb := btB_iff.mp hc
    obtain ⟨c, hc2, rfl⟩ := nI_of (x := code) (Int32.not_lt.mpr (Int32.le_trans (by decide) hcb.1))
    have c1 := (nI_leI (a := 12) (by omega) hc2).mp hcb.1
    have c2 := (nI_leI (b := 107) hc2 (by omega)).mp hcb.2
    have ech : wCh (s.N j) (nI c) dw = c / 12 := by unfold wCh; rw [if_pos hd, tN_I hc2]
    have epc : wPc (s.N j) (nI c) dw = z_size (wCo (nI c)) * z_size (wCo (nI c)) * (s.N j).c := by unfold wPc; rw [if_pos hd]
    have hpc : z_size (wCo (nI c)) * z_size (wCo (nI c)) * (s.N j).c ≤ 9 * 8 := Nat.mul_le_mul hkk b3
    have hm : c / 12 * (z_size (wCo (nI c)) * z_size (wCo (nI c)) * (s.N j).c) ≤ 8 * 72 := Nat.mul_le_mul (by omega) hpc
    rw [ech, epc, pk_mul, sub_2] at hof
    obtain ⟨f, rfl, hff⟩ := off_le (by omega) hof
    rw [ech, if_pos hd, tN_I (show f < 2 ^ 31 by omega)]
    unfold wfI
    rw [updN_at]
    refine ⟨⟨⟨⟨show 1 ≤ 10 by omega, show z_plc _ _ ≤ 4 by omega, show z_plc _ _ ≤ 4 by omega, show c / 12 ≤ 8 by omega, hco, show f ≤ 512 by omega⟩, hsc.2, k.1.2.2.2⟩, ⟨p1.2.1, p2.2.1, show 1 ≤ c / 12 by omega⟩, hsc.1⟩, Or.inr (Or.inl ⟨j, ⟨rfl, hj⟩, rfl, ?_⟩)⟩
    rw [updN_lt hj, ratA_w (Or.inl rfl) rfl hj]
    exact Or.inl ⟨rfl, winG_new hco nj.1 nj.2.1 b1 b2 hf.1 hf.2 rfl rfl, show f + c / 12 * (z_size (wCo (nI c)) * z_size (wCo (nI c)) * (s.N j).c) + c / 12 ≤ 512 by omega, hr⟩
  · have ech : wCh (s.N j) code dw = (s.N j).c := by unfold wCh; rw [if_neg hd]
    have epc : wPc (s.N j) code dw = z_size (wCo code) * z_size (wCo code) * 1 := by unfold wPc; rw [if_neg hd]
    have hm : (s.N j).c * (z_size (wCo code) * z_size (wCo code) * 1) ≤ 8 * 9 := Nat.mul_le_mul b3 (by omega)
    rw [ech, epc, pk_mul, sub_2] at hof
    obtain ⟨f, rfl, hff⟩ := off_le (by omega) hof
    rw [ech, if_neg hd, tN_I (show f < 2 ^ 31 by omega)]
    unfold wfI
    rw [updN_at]
    refine ⟨⟨⟨⟨show 2 ≤ 10 by omega, show z_plc _ _ ≤ 4 by omega, show z_plc _ _ ≤ 4 by omega, b3, hco, show f ≤ 512 by omega⟩, hsc.2, k.1.2.2.2⟩, ⟨p1.2.1, p2.2.1, nj.2.2⟩, hsc.1⟩, Or.inr (Or.inl ⟨j, ⟨rfl, hj⟩, rfl, ?_⟩)⟩
    rw [updN_lt hj, ratA_w (Or.inr (Or.inl rfl)) rfl hj]
    rw [Nat.mul_one] at hff
    exact Or.inr (Or.inl ⟨rfl, winG_new hco nj.1 nj.2.1 b1 b2 hf.1 hf.2 rfl rfl, rfl, show f + (s.N j).c * (z_size (wCo code) * z_size (wCo code)) + (s.N j).c ≤ 512 by omega, hr⟩)
