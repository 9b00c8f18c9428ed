/-! THE LAW'S LOOP -/
theorem lw_in {L k : Nat} (hL : L ≤ 3072) (hk : k ≤ 512) (h : ¬ nI L - nI 6 < nI (6 * k)) : 6 * k + 6 ≤ L := by
  rw [Int32.lt_iff_toInt_lt, pk_sub_toInt (by omega) (by omega), nI_toInt (by omega)] at h
  omega
theorem lw_head {A : Nat → Nat} {lo dq sb L ca : Nat} {xs : Nat → Int32} {h : rk_H} {u : rk_U} (hs : h sb = some (sA L xs)) (hL : L ≤ 3072) (k : Nat) (hk : k ≤ 512) (hu : rk_ok u lwB) (body : 6 * k + 6 ≤ L → rk_Run mL_law lwB lwP 38 (lwV A lo dq sb ca (nI (6 * k))) [] h u) : rk_Run mL_law lwB lwP 28 (lwV A lo dq sb ca (nI (6 * k))) [] h u := by
  refine rk_iload dL_law_28 rfl ?_
  refine rk_aload_n dL_law_30 rfl ?_
  refine rk_slen dL_law_31 hs ?_
  refine rk_bipush (v := 6) dL_law_32 (by decide) ?_
  refine rk_isub dL_law_34 ?_
  refine rk_icmp_gt 1639 dL_law_35 (by decide) (fun q => ?_) (fun q => ?_)
  · refine rk_iconst (v := 1) dL_law_1639 (by decide) ?_
    exact rk_zret rfl rfl dL_law_1640 hu rfl
  · exact body (lw_in hL hk q)
theorem lw_body {A : Nat → Nat} {lo dq sb L ca : Nat} {xs : Nat → Int32} {h : rk_H} {u1 u2 : Nat} (K : lwAt A lo dq sb L ca xs h) (hL : L ≤ 3072) (k : Nat) (hk : 6 * k + 6 ≤ L) (hu : u1 + 9 ≤ 601024 ∧ u2 + 186 ≤ 7293034) (nx : ∀ h1 : rk_H, lwAt A lo dq sb L ca xs h1 → rk_Run mL_law lwB lwP 1633 (lwV A lo dq sb ca (nI (6 * k))) [] h1 (u1 + 9, u2 + 186)) : rk_Run mL_law lwB lwP 38 (lwV A lo dq sb ca (nI (6 * k))) [] h (u1, u2) := by
  have K0 := K
  obtain ⟨b, C, X, s, f, g, K⟩ := K
  have hb : ∀ j : Nat, j < 6 → vp_in (nI (6 * k) + nI j) L := fun j hj => by rw [nI_add]; exact vp_in_nI (by omega) (by omega)
  refine rk_aload_n dL_law_38 rfl ?_
  refine rk_iload dL_law_39 rfl ?_
  refine rk_sald dL_law_41 K.1.2.2.2.2 (vp_in_nI (by omega) (by omega)) ?_
  refine rk_bipush (v := 31) dL_law_42 (by decide) ?_
  refine rk_iand dL_law_44 ?_
  obtain ⟨j, hj, ej⟩ := pk_andE (xs (nI (6 * k)).toNatClampNeg) (m := 31) 5 (by decide)
  rw [ej]
  by_cases h18 : 18 < j
  · refine rk_tableOut 1633 dL_law_45 (Or.inr (by rw [nI_toInt (by omega)]; omega)) (by decide) ?_
    exact rk_wide (u1 + 9, u2 + 186) (Nat.le_add_right _ _) (Nat.le_add_right _ _) (nx h K0)
  · rcases (show j = 0 ∨ j = 1 ∨ j = 2 ∨ j = 3 ∨ j = 4 ∨ j = 5 ∨ j = 6 ∨ j = 7 ∨ j = 8 ∨ j = 9 ∨ j = 10 ∨ j = 11 ∨ j = 12 ∨ j = 13 ∨ j = 14 ∨ j = 15 ∨ j = 16 ∨ j = 17 ∨ j = 18 by omega) with rfl | rfl | rfl | rfl | rfl | rfl | rfl | rfl | rfl | rfl | rfl | rfl | rfl | rfl | rfl | rfl | rfl | rfl | rfl
    · exact rk_tableIn (off := 91) 136 dL_law_45 (by decide) (by decide) (by decide) (by decide) (lw_weights K (nI (6 * k)) hb hu nx)
    · exact rk_tableIn (off := 191) 236 dL_law_45 (by decide) (by decide) (by decide) (by decide) (lw_weightScale K (nI (6 * k)) hb hu nx)
    · exact rk_tableIn (off := 237) 282 dL_law_45 (by decide) (by decide) (by decide) (by decide) (lw_input K (nI (6 * k)) hb hu nx)
    · refine rk_tableIn (off := 339) 384 dL_law_45 (by decide) (by decide) (by decide) (by decide) ?_
      by_cases hz : xs (nI (6 * k) + 3).toNatClampNeg = 0
      · exact lw_windowsz K (nI (6 * k)) hb hu hz nx
      · exact lw_windowsn K (nI (6 * k)) hb hu hz nx
    · exact rk_tableIn (off := 469) 514 dL_law_45 (by decide) (by decide) (by decide) (by decide) (lw_dense K (nI (6 * k)) hb hu nx)
    · exact rk_tableIn (off := 571) 616 dL_law_45 (by decide) (by decide) (by decide) (by decide) (lw_add K (nI (6 * k)) hb hu nx)
    · exact rk_tableIn (off := 661) 706 dL_law_45 (by decide) (by decide) (by decide) (by decide) (lw_concat K (nI (6 * k)) hb hu nx)
    · exact rk_tableIn (off := 729) 774 dL_law_45 (by decide) (by decide) (by decide) (by decide) (lw_reshape K (nI (6 * k)) hb hu nx)
    · refine rk_tableIn (off := 821) 866 dL_law_45 (by decide) (by decide) (by decide) (by decide) ?_
      by_cases hz : xs (nI (6 * k) + 3).toNatClampNeg = 0
      · exact lw_poolz K (nI (6 * k)) hb hu hz nx
      · exact lw_pooln K (nI (6 * k)) hb hu hz nx
    · exact rk_tableIn (off := 917) 962 dL_law_45 (by decide) (by decide) (by decide) (by decide) (lw_clamp K (nI (6 * k)) hb hu nx)
    · exact rk_tableIn (off := 997) 1042 dL_law_45 (by decide) (by decide) (by decide) (by decide) (lw_rescale K (nI (6 * k)) hb hu nx)
    · exact rk_tableIn (off := 1075) 1120 dL_law_45 (by decide) (by decide) (by decide) (by decide) (lw_output K (nI (6 * k)) hb hu nx)
    · exact rk_tableIn (off := 1131) 1176 dL_law_45 (by decide) (by decide) (by decide) (by decide) (lw_compile K (nI (6 * k)) hb hu nx)
    · exact rk_tableIn (off := 1175) 1220 dL_law_45 (by decide) (by decide) (by decide) (by decide) (lw_feed K (nI (6 * k)) hb hu nx)
    · exact rk_tableIn (off := 1287) 1332 dL_law_45 (by decide) (by decide) (by decide) (by decide) (lw_run K (nI (6 * k)) hb hu nx)
    · exact rk_tableIn (off := 1343) 1388 dL_law_45 (by decide) (by decide) (by decide) (by decide) (lw_arena K (nI (6 * k)) hb hu nx)
    · exact rk_tableIn (off := 1399) 1444 dL_law_45 (by decide) (by decide) (by decide) (by decide) (lw_result K (nI (6 * k)) hb hu nx)
    · exact rk_tableIn (off := 1476) 1521 dL_law_45 (by decide) (by decide) (by decide) (by decide) (lw_about K (nI (6 * k)) hb hu nx)
    · exact rk_tableIn (off := 1544) 1589 dL_law_45 (by decide) (by decide) (by decide) (by decide) (lw_peak K (nI (6 * k)) hb hu nx)
theorem lw_loop {A : Nat → Nat} {lo dq sb L ca : Nat} {xs : Nat → Int32} (hL : L ≤ 3072) : ∀ (m k : Nat) (h : rk_H), 512 ≤ k + m → k ≤ 512 → lwAt A lo dq sb L ca xs h → rk_Run mL_law lwB lwP 28 (lwV A lo dq sb ca (nI (6 * k))) [] h (100 + 9 * k, 10000 + 186 * k) := by
  intro m
  induction m with
  | zero =>
    intro k h hm hk K
    obtain ⟨b, C, X, s, f, g, K1⟩ := id K
    exact lw_head K1.1.2.2.2.2 hL k hk ⟨by show 100 + 9 * k ≤ 601024; omega, by show 10000 + 186 * k ≤ 7293034; omega⟩ (fun q => absurd q (by omega))
  | succ m ih =>
    intro k h hm hk K
    obtain ⟨b, C, X, s, f, g, K1⟩ := id K
    refine lw_head K1.1.2.2.2.2 hL k hk ⟨by show 100 + 9 * k ≤ 601024; omega, by show 10000 + 186 * k ≤ 7293034; omega⟩ (fun q => ?_)
    refine lw_body K hL k q ⟨by omega, by omega⟩ (fun h1 K2 => ?_)
    refine rk_iinc (v := nI (6 * (k + 1))) dL_law_1633 rfl (show nI (6 * k) + nI 6 = nI (6 * (k + 1)) by rw [nI_add]; rfl) (Nat.le_of_ble_eq_true rfl) ?_
    refine rk_goto 28 dL_law_1636 (by decide) ?_
    refine rk_lv [some (.ref sb), some (.ref ca), some (.ref (A 0)), some (.ref lo), some (.ref dq), some (.int (nI (6 * (k + 1)))), none, none, none] ⟨rfl, rfl, rfl, rfl, rfl, rfl, trivial⟩ ?_
    exact rk_wide (100 + 9 * (k + 1), 10000 + 186 * (k + 1)) (by show 100 + 9 * k + 9 ≤ 100 + 9 * (k + 1); omega) (by show 10000 + 186 * k + 186 ≤ 10000 + 186 * (k + 1); omega) (ih (k + 1) h1 (by omega) (by omega) K2)
