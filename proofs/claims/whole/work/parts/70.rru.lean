/-! the reference: run, its loops over the arena and over the nodes -/
theorem pR_0 {N : Nat → aN} {n out i : Nat} (h : pR N n out i ≠ 0) : pR0 N out i = 2 := by
  have hle := pR_le N n out i
  rcases (show pR N n out i = 1 ∨ pR N n out i = 2 by omega) with h1 | h2
  · exact (pR_1 h1).1
  · exact pR_2 h2
theorem pR_n0 {N : Nat → aN} {n out i : Nat} (h : pR0 N out i = 2) : pR N n out i ≠ 0 := by
  unfold pR rlF
  split
  · omega
  · omega
theorem c_R_nodes (b : rk_H) (A : Nat → Nat) (Y : rX) (k : rA A) (P : rk_P) (a : Int32) (out : Nat) (g0 : Nat → Int32) (hno : Y.no ≤ 14) (ho : out < Y.no) (hwf : wfN Y.N Y.no) (hS : sfK Y.st (stS Y.N) Y.no) (hR : sfK Y.ro (pR Y.N Y.no out) Y.no) (hw : ∀ z, in8 (Y.w z)) (hfe : ∀ m z, m < Y.no → in8 (Y.fe (128 * m + z))) (hpl : plR Y.pl (pP Y.N Y.no out).1 Y.no)
    (nx : rk_Run mR_run (5, 94, 0, 0) P 160 [some (.ref (A 0)), some (.int a), none, none, none] [] (rv b A (Y.rn (itr (rnR Y.N Y.w (fdY Y) (pR Y.N Y.no out) (pP Y.N Y.no out).1) Y.no 0 (Y.ce, g0)).1 (itr (rnR Y.N Y.w (fdY Y) (pR Y.N Y.no out) (pP Y.N Y.no out).1) Y.no 0 (Y.ce, g0)).2)) (0, 0)) :
    rk_Run mR_run (5, 94, 0, 0) P 67 [some (.ref (A 0)), some (.int a), some (.int (nI 0)), none, none] [] (rv b A (Y.rn Y.ce g0)) (0, 0) := by
  have hin := wfN.inn hwf
  have hSl := stS_le hin
  have hrn := (pl_rnK hwf hno ho).1
  have loop : ∀ (k1 n : Nat) (q : (Nat → Int32) × (Nat → Int32)), n + k1 = Y.no → q = itr (rnR Y.N Y.w (fdY Y) (pR Y.N Y.no out) (pP Y.N Y.no out).1) n 0 (Y.ce, g0) → (∀ m, m < n → pR Y.N Y.no out m ≠ 0 → ∀ z, z < (Y.N m).ce → in8 (q.1 (128 * m + z))) → rk_Run mR_run (5, 94, 0, 0) P 67 [some (.ref (A 0)), some (.int a), some (.int (nI n)), none, none] [] (rv b A (Y.rn q.1 q.2)) (0, 0) := by
    intro k1
    induction k1 with
    | zero =>
      intro n q hn hq hD
      have hn : n = Y.no := by omega
      subst hn
      rw [← hq] at nx
      refine rk_iload_n dR_run_67 rfl ?_
      refine rk_aload_n dR_run_68 rfl ?_
      refine rk_getf fR_106 dR_run_69 k.m rfl ?_
      rw [rn_no]
      refine rk_icmp_ge 160 dR_run_72 (by decide) (fun q_72 => ?_) (fun q_72 => ?_)
      · refine rk_lv [some (.ref (A 0)), some (.int a), none, none, none] ⟨rfl, rfl, trivial⟩ ?_
        exact nx
      · exact absurd (nI_le (Nat.le_refl _) (by omega)) q_72
    | succ k1 ih =>
      intro n q hn hq hD
      have hR2 := pR_le Y.N Y.no out n
      have bn := (wfN.bd hwf n (by omega)).ce
      have h8 : pR Y.N Y.no out n ≠ 0 → (∀ a, (Y.N n).one = some a → ∀ z, z < (Y.N a).ce → in8 (q.1 (128 * stS Y.N a + z))) ∧ (∀ a, (Y.N n).two = some a → ∀ z, z < (Y.N a).ce → in8 (q.1 (128 * stS Y.N a + z))) := by
        intro h0
        have key : ∀ a, ((Y.N n).one = some a ∨ (Y.N n).two = some a) → a < n → ∀ z, z < (Y.N a).ce → in8 (q.1 (128 * stS Y.N a + z)) := by
          intro a ha hal z hz
          have h1 := (pR0_in hwf ho (pR_0 h0) ha).1
          exact hD (stS Y.N a) (by have := hSl a (by omega); omega) (pR_n0 h1) z (by rw [stS_ce hwf (by omega)]; exact hz)
        exact ⟨fun a ha => key a (Or.inl ha) ((hin n (by omega)).1 a ha), fun a ha => key a (Or.inr ha) ((hin n (by omega)).2 a ha)⟩
      have hq' : rnR Y.N Y.w (fdY Y) (pR Y.N Y.no out) (pP Y.N Y.no out).1 n q = itr (rnR Y.N Y.w (fdY Y) (pR Y.N Y.no out) (pP Y.N Y.no out).1) (n + 1) 0 (Y.ce, g0) := by rw [itr_snoc, Nat.zero_add, ← hq]
      have hD' : ∀ m, m < n + 1 → pR Y.N Y.no out m ≠ 0 → ∀ z, z < (Y.N m).ce → in8 ((rnR Y.N Y.w (fdY Y) (pR Y.N Y.no out) (pP Y.N Y.no out).1 n q).1 (128 * m + z)) := by
        intro m hm h0 z hz
        unfold rnR
        by_cases hr : pR Y.N Y.no out n = 0
        · rw [if_pos hr]
          by_cases hmn : m = n
          · rw [hmn] at h0; exact absurd hr h0
          · exact hD m (by omega) h0 z hz
        · rw [if_neg hr]
          dsimp only
          by_cases hmn : m = n
          · subst hmn
            rw [stp_in hz]
            have V : vOK (Y.rn q.1 q.2) m := by
              unfold vOK
              rw [rn_no, rn_N, rn_st, rn_w, rn_ce]
              exact ⟨⟨hno, by omega, hwf, hS⟩, hw, (h8 hr).1, (h8 hr).2⟩
            have e := vR_in8 (j := z) V (by rw [rn_N]; exact hz) (fun z => by rw [rn_fe]; exact hfe m z (by omega))
            rw [vR_rn] at e
            exact e
          · have bm := (wfN.bd hwf m (by omega)).ce
            rw [stp_out (by omega)]
            exact hD m (by omega) h0 z hz
      have nxt := ih (n + 1) _ (by omega) hq' hD'
      have node := c_R_node b A Y k P a (pR Y.N Y.no out) (pP Y.N Y.no out).1 n q.1 q.2 hno (by omega) hwf hS (hR n (by omega)) hR2 hw (fun h2 => by
        obtain ⟨⟨t, ht, htc⟩, -⟩ := hrn n (by omega) h2
        have e : plN (pP Y.N Y.no out).1 n = t := by unfold plN; rw [ht]; rfl
        exact ⟨by rw [hpl n (by omega), e, ht]; rfl, by rw [e]; exact htc⟩) h8 (by
          refine rk_iinc dR_run_154 rfl (inc1 n) (Nat.le_of_ble_eq_true rfl) ?_
          refine rk_goto 67 dR_run_157 (by decide) ?_
          exact nxt)
      refine rk_iload_n dR_run_67 rfl ?_
      refine rk_aload_n dR_run_68 rfl ?_
      refine rk_getf fR_106 dR_run_69 k.m rfl ?_
      rw [rn_no]
      refine rk_icmp_ge 160 dR_run_72 (by decide) (fun q_72 => ?_) (fun q_72 => ?_)
      · exact absurd q_72 (nI_ge (by omega) (by omega))
      · refine rk_iconst (v := 0) dR_run_75 (by decide) ?_
        refine rk_istore_n dR_run_76 (Nat.le_of_ble_eq_true rfl) ?_
        exact node
  exact loop Y.no 0 (Y.ce, g0) (Nat.zero_add _) rfl (fun m hm => absurd hm (Nat.not_lt_zero _))
theorem c_R_zeros (b : rk_H) (A : Nat → Nat) (Y : rX) (k : rA A) (P : rk_P) (a : Int32) (p : Nat) (hp : p ≤ 1792) (hpk : Y.pk = nI p)
    (nx : ∀ g : Nat → Int32, (∀ j, j < p → g j = 0) → rk_Run mR_run (5, 94, 0, 0) P 67 [some (.ref (A 0)), some (.int a), some (.int (nI 0)), none, none] [] (rv b A (Y.rn Y.ce g)) (0, 0)) :
    rk_Run mR_run (5, 94, 0, 0) P 44 [some (.ref (A 0)), some (.int a), some (.int (nI 0)), none, none] [] (rv b A (Y.rn Y.ce Y.ar)) (0, 0) := by
  have loop : ∀ (k1 i : Nat) (g : Nat → Int32), i + k1 = p → (∀ j, j < i → g j = 0) → rk_Run mR_run (5, 94, 0, 0) P 44 [some (.ref (A 0)), some (.int a), some (.int (nI i)), none, none] [] (rv b A (Y.rn Y.ce g)) (0, 0) := by
    intro k1
    induction k1 with
    | zero =>
      intro i g hi hg
      have hi : i = p := by omega
      subst hi
      refine rk_iload_n dR_run_44 rfl ?_
      refine rk_aload_n dR_run_45 rfl ?_
      refine rk_getf fR_158 dR_run_46 k.m rfl ?_
      rw [rn_pk, hpk]
      refine rk_icmp_ge 65 dR_run_49 (by decide) (fun q_49 => ?_) (fun q_49 => ?_)
      · refine rk_iconst (v := 0) dR_run_65 (by decide) ?_
        refine rk_istore_n dR_run_66 (Nat.le_of_ble_eq_true rfl) ?_
        exact nx g hg
      · exact absurd (nI_le (Nat.le_refl _) (by omega)) q_49
    | succ k1 ih =>
      intro i g hi hg
      refine rk_iload_n dR_run_44 rfl ?_
      refine rk_aload_n dR_run_45 rfl ?_
      refine rk_getf fR_158 dR_run_46 k.m rfl ?_
      rw [rn_pk, hpk]
      refine rk_icmp_ge 65 dR_run_49 (by decide) (fun q_49 => ?_) (fun q_49 => ?_)
      · exact absurd q_49 (nI_ge (by omega) (by omega))
      · refine rk_aload_n dR_run_52 rfl ?_
        refine rk_getf fR_79 dR_run_53 k.m rfl ?_
        refine rk_iload_n dR_run_56 rfl ?_
        refine rk_iconst (v := 0) dR_run_57 (by decide) ?_
        refine rk_iast dR_run_58 k.ar (vp_in_nI (show i < 1792 by omega) (by omega)) ?_
        rw [k.uar]
        refine rk_iinc dR_run_59 rfl (inc1 i) (Nat.le_of_ble_eq_true rfl) ?_
        refine rk_goto 44 dR_run_62 (by decide) ?_
        rw [nI_clamp (show i < 2 ^ 31 by omega), rn_war, rn_ar]
        exact ih (i + 1) (upd g i 0) (by omega) (fun j hj => by unfold upd; split; rfl; exact hg j (by omega))
  exact loop p 0 Y.ar (Nat.zero_add _) (fun j hj => absurd hj (Nat.not_lt_zero _))
