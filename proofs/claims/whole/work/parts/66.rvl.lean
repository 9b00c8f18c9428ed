/-! the reference: value -/
theorem yxc {j h w c : Nat} (hj : j < h * w * c) : j / c / w < h ∧ j / c % w < w ∧ j % c < c := by
  have hc : 0 < c := by
    rcases Nat.eq_zero_or_pos c with z | z
    · rw [z, Nat.mul_zero] at hj; omega
    · exact z
  have h1 : j / c < h * w := Nat.div_lt_of_lt_mul (by rw [Nat.mul_comm]; exact hj)
  have hw : 0 < w := by
    rcases Nat.eq_zero_or_pos w with z | z
    · rw [z, Nat.mul_zero] at h1; exact absurd h1 (Nat.not_lt_zero _)
    · exact z
  exact ⟨Nat.div_lt_of_lt_mul (by rw [Nat.mul_comm]; exact h1), Nat.mod_lt _ hw, Nat.mod_lt _ hc⟩
theorem clp_eq {lo hi v w : Int32} (h : (v < lo ∧ w = lo) ∨ (lo ≤ v ∧ hi < v ∧ w = hi) ∨ (lo ≤ v ∧ v ≤ hi ∧ w = v)) (hl : lo ≤ hi) : Value.int w = Value.int (s_clp lo hi v) := by
  congr 1
  unfold s_clp i_max i_min
  rcases h with ⟨h1, h2⟩ | ⟨h1, h2, h3⟩ | ⟨h1, h2, h3⟩
  · rw [if_pos (Int32.lt_of_lt_of_le h1 hl), if_neg (Int32.not_lt.mpr (Int32.le_of_lt h1)), h2]
  · rw [if_neg (Int32.not_lt.mpr (Int32.le_of_lt h2))]
    by_cases h4 : lo < hi
    · rw [if_pos h4, h3]
    · rw [if_neg h4, h3]
      exact Int32.le_antisymm (Int32.not_lt.mp h4) hl
  · have e : (if v < hi then v else hi) = v := by
      by_cases h5 : v < hi
      · rw [if_pos h5]
      · rw [if_neg h5]
        exact Int32.le_antisymm (Int32.not_lt.mp h5) h2
    rw [e]
    by_cases h4 : lo < v
    · rw [if_pos h4, h3]
    · rw [if_neg h4, h3]
      exact Int32.le_antisymm (Int32.not_lt.mp h4) h1
theorem c_R_value0 (b : rk_H) (A : Nat → Nat) (X : rX) (k : rA A) (n j : Nat) (V : vOK X n) (hj : j < (X.N n).ce) (hk : (X.N n).kd = 0) : rk_Con mR_value (4, 71, 0, 0) [.ref (A 0), .int (nI n), .int (nI j)] (rv b A X) (rk_Rv (.int (vR X n j)) (rv b A X)) := by
  obtain ⟨⟨hno, hn, hwf, hS⟩, hw8, h81, h82⟩ := id V
  obtain ⟨⟨bn, ⟨n1, n2, n3⟩, nsc⟩, hkind⟩ := hwf n hn
  have hce := bn.ce
  obtain ⟨y1, x1, c1⟩ := yxc (show j < (X.N n).h * (X.N n).w * (X.N n).c from hj)
  have bc := bn.1.2.2.2.1
  have bw := bn.1.2.2.1
  have bh := bn.1.2.1
  obtain ⟨ho, ht⟩ : (X.N n).one = none ∧ (X.N n).two = none := by
    rcases hkind with ⟨-, h1, h2⟩ | ⟨a, -, -, h⟩ | ⟨a, c, -, -, h⟩
    · exact ⟨h1, h2⟩
    · omega
    · omega
  refine rk_Con.of [some (.ref (A 0)), some (.int (nI n)), some (.int (nI j)), none, none, none, none, none, none, none] rfl (Nat.le_of_ble_eq_true rfl) (by decide +kernel) ?_
  refine rk_aload_n dR_value_0 rfl ?_
  refine rk_aload_n dR_value_1 rfl ?_
  refine rk_getf fR_20 dR_value_2 k.m rfl ?_
  refine rk_iload_n dR_value_5 rfl ?_
  refine rk_iald dR_value_6 k.on (vp_in_nI (show n < 14 by omega) (by omega)) ?_
  rw [nI_clamp (show n < 2 ^ 31 by omega), ho]
  refine rk_cvV (c_R_standFor b A X k none (fun z hz => by cases hz)) cR_143 dR_value_7 rfl lR_standFor (Nat.le_of_ble_eq_true rfl) (Nat.le_of_ble_eq_true rfl) (Nat.le_of_ble_eq_true rfl) (Nat.le_of_ble_eq_true rfl) k.m ?_
  rw [show mnt X.st none = -1 from rfl]
  refine rk_istore_n dR_value_10 (Nat.le_of_ble_eq_true rfl) ?_
  refine rk_lv [some (.ref (A 0)), some (.int (nI n)), some (.int (nI j)), some (.int (-1)), none, none, none, none, none, none] ⟨rfl, rfl, rfl, rfl, trivial⟩ ?_
  refine rk_aload_n dR_value_11 rfl ?_
  refine rk_aload_n dR_value_12 rfl ?_
  refine rk_getf fR_23 dR_value_13 k.m rfl ?_
  refine rk_iload_n dR_value_16 rfl ?_
  refine rk_iald dR_value_17 k.tw (vp_in_nI (show n < 14 by omega) (by omega)) ?_
  rw [nI_clamp (show n < 2 ^ 31 by omega), ht]
  refine rk_cvV (c_R_standFor b A X k none (fun z hz => by cases hz)) cR_143 dR_value_18 rfl lR_standFor (Nat.le_of_ble_eq_true rfl) (Nat.le_of_ble_eq_true rfl) (Nat.le_of_ble_eq_true rfl) (Nat.le_of_ble_eq_true rfl) k.m ?_
  rw [show mnt X.st none = -1 from rfl]
  refine rk_istore dR_value_21 (Nat.le_of_ble_eq_true rfl) ?_
  refine rk_lv [some (.ref (A 0)), some (.int (nI n)), some (.int (nI j)), some (.int (-1)), some (.int (-1)), none, none, none, none, none] ⟨rfl, rfl, rfl, rfl, rfl, trivial⟩ ?_
  refine rk_iload_n dR_value_23 rfl ?_
  refine rk_aload_n dR_value_24 rfl ?_
  refine rk_getf fR_32 dR_value_25 k.m rfl ?_
  refine rk_iload_n dR_value_28 rfl ?_
  refine rk_iald dR_value_29 k.de (vp_in_nI (show n < 14 by omega) (by omega)) ?_
  rw [nI_clamp (show n < 2 ^ 31 by omega)]
  refine rk_irem dR_value_30 (nI_ne0 (by omega) (by omega)) ?_
  rw [pk_rem (by omega) (by omega) (by omega)]
  refine rk_istore dR_value_31 (Nat.le_of_ble_eq_true rfl) ?_
  refine rk_lv [some (.ref (A 0)), some (.int (nI n)), some (.int (nI j)), some (.int (-1)), some (.int (-1)), some (.int (nI (j % (X.N n).c))), none, none, none, none] ⟨rfl, rfl, rfl, rfl, rfl, rfl, trivial⟩ ?_
  refine rk_iload_n dR_value_33 rfl ?_
  refine rk_aload_n dR_value_34 rfl ?_
  refine rk_getf fR_32 dR_value_35 k.m rfl ?_
  refine rk_iload_n dR_value_38 rfl ?_
  refine rk_iald dR_value_39 k.de (vp_in_nI (show n < 14 by omega) (by omega)) ?_
  rw [nI_clamp (show n < 2 ^ 31 by omega)]
  refine rk_idiv dR_value_40 (nI_ne0 (by omega) (by omega)) ?_
  rw [pk_div (by omega) (by omega) (by omega)]
  refine rk_aload_n dR_value_41 rfl ?_
  refine rk_getf fR_29 dR_value_42 k.m rfl ?_
  refine rk_iload_n dR_value_45 rfl ?_
  refine rk_iald dR_value_46 k.wi (vp_in_nI (show n < 14 by omega) (by omega)) ?_
  rw [nI_clamp (show n < 2 ^ 31 by omega)]
  refine rk_irem dR_value_47 (nI_ne0 (by omega) (by omega)) ?_
  rw [pk_rem (by have := Nat.div_le_self j (X.N n).c; omega) (by omega) (by omega)]
  refine rk_istore dR_value_48 (Nat.le_of_ble_eq_true rfl) ?_
  refine rk_lv [some (.ref (A 0)), some (.int (nI n)), some (.int (nI j)), some (.int (-1)), some (.int (-1)), some (.int (nI (j % (X.N n).c))), some (.int (nI (j / (X.N n).c % (X.N n).w))), none, none, none] ⟨rfl, rfl, rfl, rfl, rfl, rfl, rfl, trivial⟩ ?_
  refine rk_iload_n dR_value_50 rfl ?_
  refine rk_aload_n dR_value_51 rfl ?_
  refine rk_getf fR_32 dR_value_52 k.m rfl ?_
  refine rk_iload_n dR_value_55 rfl ?_
  refine rk_iald dR_value_56 k.de (vp_in_nI (show n < 14 by omega) (by omega)) ?_
  rw [nI_clamp (show n < 2 ^ 31 by omega)]
  refine rk_idiv dR_value_57 (nI_ne0 (by omega) (by omega)) ?_
  rw [pk_div (by omega) (by omega) (by omega)]
  refine rk_aload_n dR_value_58 rfl ?_
  refine rk_getf fR_29 dR_value_59 k.m rfl ?_
  refine rk_iload_n dR_value_62 rfl ?_
  refine rk_iald dR_value_63 k.wi (vp_in_nI (show n < 14 by omega) (by omega)) ?_
  rw [nI_clamp (show n < 2 ^ 31 by omega)]
  refine rk_idiv dR_value_64 (nI_ne0 (by omega) (by omega)) ?_
  rw [pk_div (by have := Nat.div_le_self j (X.N n).c; omega) (by omega) (by omega)]
  refine rk_istore dR_value_65 (Nat.le_of_ble_eq_true rfl) ?_
  refine rk_lv [some (.ref (A 0)), some (.int (nI n)), some (.int (nI j)), some (.int (-1)), some (.int (-1)), some (.int (nI (j % (X.N n).c))), some (.int (nI (j / (X.N n).c % (X.N n).w))), some (.int (nI (j / (X.N n).c / (X.N n).w))), none, none] ⟨rfl, rfl, rfl, rfl, rfl, rfl, rfl, rfl, trivial⟩ ?_
  refine rk_aload_n dR_value_67 rfl ?_
  refine rk_getf fR_17 dR_value_68 k.m rfl ?_
  refine rk_iload_n dR_value_71 rfl ?_
  refine rk_iald dR_value_72 k.kd (vp_in_nI (show n < 14 by omega) (by omega)) ?_
  rw [nI_clamp (show n < 2 ^ 31 by omega), hk]
  refine rk_iconst (v := 1) dR_value_73 (by decide) ?_
  refine rk_icmp_lt 110 dR_value_74 (by decide) (fun q_74 => ?_) (fun q_74 => (by exact absurd (by decide) q_74))
  refine rk_dconst0 dR_value_110 ?_
  refine rk_dstore dR_value_111 (Nat.le_of_ble_eq_true rfl) ?_
  refine rk_lv [some (.ref (A 0)), some (.int (nI n)), some (.int (nI j)), some (.int (-1)), some (.int (-1)), some (.int (nI (j % (X.N n).c))), some (.int (nI (j / (X.N n).c % (X.N n).w))), some (.int (nI (j / (X.N n).c / (X.N n).w))), some (.double FP.dconst0), none] ⟨rfl, rfl, rfl, rfl, rfl, rfl, rfl, rfl, rfl, trivial⟩ ?_
  refine rk_aload_n dR_value_113 rfl ?_
  refine rk_getf fR_17 dR_value_114 k.m rfl ?_
  refine rk_iload_n dR_value_117 rfl ?_
  refine rk_iald dR_value_118 k.kd (vp_in_nI (show n < 14 by omega) (by omega)) ?_
  rw [nI_clamp (show n < 2 ^ 31 by omega), hk]
  refine rk_tableIn (off := 53) 172 dR_value_119 (by decide) (by decide) (by decide) (by decide) ?_
  refine rk_aload_n dR_value_172 rfl ?_
  refine rk_getf fR_57 dR_value_173 k.m rfl ?_
  refine rk_sipush (v := 128) dR_value_176 (by decide) ?_
  refine rk_iload_n dR_value_179 rfl ?_
  refine rk_imul dR_value_180 ?_
  refine rk_iload_n dR_value_181 rfl ?_
  refine rk_iadd dR_value_182 ?_
  rw [show (128 : Int32) = nI 128 from rfl, pk_mul, nI_add]
  refine rk_iald dR_value_183 k.fe (vp_in_nI (show 128 * n + j < 1792 by omega) (by omega)) ?_
  rw [nI_clamp (show 128 * n + j < 2 ^ 31 by omega)]
  exact rk_iret rfl dR_value_184 ⟨(Nat.le_of_ble_eq_true rfl), (Nat.le_of_ble_eq_true rfl)⟩ (⟨by unfold vR vI vNode; rw [if_pos hk], rfl⟩)
theorem c_R_value6 (b : rk_H) (A : Nat → Nat) (X : rX) (k : rA A) (n j : Nat) (V : vOK X n) (hj : j < (X.N n).ce) (hk : (X.N n).kd = 6) : rk_Con mR_value (4, 71, 0, 0) [.ref (A 0), .int (nI n), .int (nI j)] (rv b A X) (rk_Rv (.int (vR X n j)) (rv b A X)) := by
  obtain ⟨⟨hno, hn, hwf, hS⟩, hw8, h81, h82⟩ := id V
  obtain ⟨⟨bn, ⟨n1, n2, n3⟩, nsc⟩, hkind⟩ := hwf n hn
  have hce := bn.ce
  obtain ⟨y1, x1, c1⟩ := yxc (show j < (X.N n).h * (X.N n).w * (X.N n).c from hj)
  have bc := bn.1.2.2.2.1
  have bw := bn.1.2.2.1
  have bh := bn.1.2.1
  obtain ⟨a, ⟨ho, ha⟩, ht, hK⟩ : ∃ a : Nat, ((X.N n).one = some a ∧ a < n) ∧ (X.N n).two = none ∧ ((X.N n).ce = (X.N a).ce ∧ (X.N n).sc = (X.N a).sc) := by
    rcases hkind with ⟨h, -⟩ | ⟨a, h1, h2, h⟩ | ⟨a, c, -, -, h⟩
    · omega
    · refine ⟨a, h1, h2, ?_⟩
      rcases h with h | h | h | h | h | h | h <;> first | exact absurd h.1 (by omega) | exact h.2
    · omega
  obtain ⟨s1l, ⟨s1h, s1w, s1c⟩, s1ce, s1sc⟩ := V.s (show a < X.no by omega)
  have e1S : mnt X.st (some a) = nI (stS X.N a) := hS a (by omega)
  have bs := wfN.bd hwf (stS X.N a) (by omega)
  have bsc := bs.ce
  have f8 : ∀ z, z < (X.N (stS X.N a)).ce → in8 (X.ce (128 * stS X.N a + z)) := fun z hz => h81 a ho z (by rw [s1ce]; exact hz)
  have eV := vR_o (j := j) V ho (show a < X.no by omega)
  rw [eV]
  refine rk_Con.of [some (.ref (A 0)), some (.int (nI n)), some (.int (nI j)), none, none, none, none, none, none, none] rfl (Nat.le_of_ble_eq_true rfl) (by decide +kernel) ?_
  refine rk_aload_n dR_value_0 rfl ?_
  refine rk_aload_n dR_value_1 rfl ?_
  refine rk_getf fR_20 dR_value_2 k.m rfl ?_
  refine rk_iload_n dR_value_5 rfl ?_
  refine rk_iald dR_value_6 k.on (vp_in_nI (show n < 14 by omega) (by omega)) ?_
  rw [nI_clamp (show n < 2 ^ 31 by omega), ho]
  refine rk_cvV (c_R_standFor b A X k (some a) (fun z hz => by cases hz; omega)) cR_143 dR_value_7 rfl lR_standFor (Nat.le_of_ble_eq_true rfl) (Nat.le_of_ble_eq_true rfl) (Nat.le_of_ble_eq_true rfl) (Nat.le_of_ble_eq_true rfl) k.m ?_
  rw [e1S]
  refine rk_istore_n dR_value_10 (Nat.le_of_ble_eq_true rfl) ?_
  refine rk_lv [some (.ref (A 0)), some (.int (nI n)), some (.int (nI j)), some (.int (nI (stS X.N a))), none, none, none, none, none, none] ⟨rfl, rfl, rfl, rfl, trivial⟩ ?_
  refine rk_aload_n dR_value_11 rfl ?_
  refine rk_aload_n dR_value_12 rfl ?_
  refine rk_getf fR_23 dR_value_13 k.m rfl ?_
  refine rk_iload_n dR_value_16 rfl ?_
  refine rk_iald dR_value_17 k.tw (vp_in_nI (show n < 14 by omega) (by omega)) ?_
  rw [nI_clamp (show n < 2 ^ 31 by omega), ht]
  refine rk_cvV (c_R_standFor b A X k none (fun z hz => by cases hz)) cR_143 dR_value_18 rfl lR_standFor (Nat.le_of_ble_eq_true rfl) (Nat.le_of_ble_eq_true rfl) (Nat.le_of_ble_eq_true rfl) (Nat.le_of_ble_eq_true rfl) k.m ?_
  rw [show mnt X.st none = -1 from rfl]
  refine rk_istore dR_value_21 (Nat.le_of_ble_eq_true rfl) ?_
  refine rk_lv [some (.ref (A 0)), some (.int (nI n)), some (.int (nI j)), some (.int (nI (stS X.N a))), some (.int (-1)), none, none, none, none, none] ⟨rfl, rfl, rfl, rfl, rfl, trivial⟩ ?_
  refine rk_iload_n dR_value_23 rfl ?_
  refine rk_aload_n dR_value_24 rfl ?_
  refine rk_getf fR_32 dR_value_25 k.m rfl ?_
  refine rk_iload_n dR_value_28 rfl ?_
  refine rk_iald dR_value_29 k.de (vp_in_nI (show n < 14 by omega) (by omega)) ?_
  rw [nI_clamp (show n < 2 ^ 31 by omega)]
  refine rk_irem dR_value_30 (nI_ne0 (by omega) (by omega)) ?_
  rw [pk_rem (by omega) (by omega) (by omega)]
  refine rk_istore dR_value_31 (Nat.le_of_ble_eq_true rfl) ?_
  refine rk_lv [some (.ref (A 0)), some (.int (nI n)), some (.int (nI j)), some (.int (nI (stS X.N a))), some (.int (-1)), some (.int (nI (j % (X.N n).c))), none, none, none, none] ⟨rfl, rfl, rfl, rfl, rfl, rfl, trivial⟩ ?_
  refine rk_iload_n dR_value_33 rfl ?_
  refine rk_aload_n dR_value_34 rfl ?_
  refine rk_getf fR_32 dR_value_35 k.m rfl ?_
  refine rk_iload_n dR_value_38 rfl ?_
  refine rk_iald dR_value_39 k.de (vp_in_nI (show n < 14 by omega) (by omega)) ?_
  rw [nI_clamp (show n < 2 ^ 31 by omega)]
  refine rk_idiv dR_value_40 (nI_ne0 (by omega) (by omega)) ?_
  rw [pk_div (by omega) (by omega) (by omega)]
  refine rk_aload_n dR_value_41 rfl ?_
  refine rk_getf fR_29 dR_value_42 k.m rfl ?_
  refine rk_iload_n dR_value_45 rfl ?_
  refine rk_iald dR_value_46 k.wi (vp_in_nI (show n < 14 by omega) (by omega)) ?_
  rw [nI_clamp (show n < 2 ^ 31 by omega)]
  refine rk_irem dR_value_47 (nI_ne0 (by omega) (by omega)) ?_
  rw [pk_rem (by have := Nat.div_le_self j (X.N n).c; omega) (by omega) (by omega)]
  refine rk_istore dR_value_48 (Nat.le_of_ble_eq_true rfl) ?_
  refine rk_lv [some (.ref (A 0)), some (.int (nI n)), some (.int (nI j)), some (.int (nI (stS X.N a))), some (.int (-1)), some (.int (nI (j % (X.N n).c))), some (.int (nI (j / (X.N n).c % (X.N n).w))), none, none, none] ⟨rfl, rfl, rfl, rfl, rfl, rfl, rfl, trivial⟩ ?_
  refine rk_iload_n dR_value_50 rfl ?_
  refine rk_aload_n dR_value_51 rfl ?_
  refine rk_getf fR_32 dR_value_52 k.m rfl ?_
  refine rk_iload_n dR_value_55 rfl ?_
  refine rk_iald dR_value_56 k.de (vp_in_nI (show n < 14 by omega) (by omega)) ?_
  rw [nI_clamp (show n < 2 ^ 31 by omega)]
  refine rk_idiv dR_value_57 (nI_ne0 (by omega) (by omega)) ?_
  rw [pk_div (by omega) (by omega) (by omega)]
  refine rk_aload_n dR_value_58 rfl ?_
  refine rk_getf fR_29 dR_value_59 k.m rfl ?_
  refine rk_iload_n dR_value_62 rfl ?_
  refine rk_iald dR_value_63 k.wi (vp_in_nI (show n < 14 by omega) (by omega)) ?_
  rw [nI_clamp (show n < 2 ^ 31 by omega)]
  refine rk_idiv dR_value_64 (nI_ne0 (by omega) (by omega)) ?_
  rw [pk_div (by have := Nat.div_le_self j (X.N n).c; omega) (by omega) (by omega)]
  refine rk_istore dR_value_65 (Nat.le_of_ble_eq_true rfl) ?_
  refine rk_lv [some (.ref (A 0)), some (.int (nI n)), some (.int (nI j)), some (.int (nI (stS X.N a))), some (.int (-1)), some (.int (nI (j % (X.N n).c))), some (.int (nI (j / (X.N n).c % (X.N n).w))), some (.int (nI (j / (X.N n).c / (X.N n).w))), none, none] ⟨rfl, rfl, rfl, rfl, rfl, rfl, rfl, rfl, trivial⟩ ?_
  refine rk_aload_n dR_value_67 rfl ?_
  refine rk_getf fR_17 dR_value_68 k.m rfl ?_
  refine rk_iload_n dR_value_71 rfl ?_
  refine rk_iald dR_value_72 k.kd (vp_in_nI (show n < 14 by omega) (by omega)) ?_
  rw [nI_clamp (show n < 2 ^ 31 by omega), hk]
  refine rk_iconst (v := 1) dR_value_73 (by decide) ?_
  refine rk_icmp_lt 110 dR_value_74 (by decide) (fun q_74 => (by exact absurd q_74 (by decide))) (fun q_74 => ?_)
  refine rk_aload_n dR_value_77 rfl ?_
  refine rk_getf fR_17 dR_value_78 k.m rfl ?_
  refine rk_iload_n dR_value_81 rfl ?_
  refine rk_iald dR_value_82 k.kd (vp_in_nI (show n < 14 by omega) (by omega)) ?_
  rw [nI_clamp (show n < 2 ^ 31 by omega), hk]
  refine rk_iconst (v := 3) dR_value_83 (by decide) ?_
  refine rk_icmp_gt 110 dR_value_84 (by decide) (fun q_84 => ?_) (fun q_84 => (by exact absurd (by decide) q_84))
  refine rk_dconst0 dR_value_110 ?_
  refine rk_dstore dR_value_111 (Nat.le_of_ble_eq_true rfl) ?_
  refine rk_lv [some (.ref (A 0)), some (.int (nI n)), some (.int (nI j)), some (.int (nI (stS X.N a))), some (.int (-1)), some (.int (nI (j % (X.N n).c))), some (.int (nI (j / (X.N n).c % (X.N n).w))), some (.int (nI (j / (X.N n).c / (X.N n).w))), some (.double FP.dconst0), none] ⟨rfl, rfl, rfl, rfl, rfl, rfl, rfl, rfl, rfl, trivial⟩ ?_
  refine rk_aload_n dR_value_113 rfl ?_
  refine rk_getf fR_17 dR_value_114 k.m rfl ?_
  refine rk_iload_n dR_value_117 rfl ?_
  refine rk_iald dR_value_118 k.kd (vp_in_nI (show n < 14 by omega) (by omega)) ?_
  rw [nI_clamp (show n < 2 ^ 31 by omega), hk]
  refine rk_tableIn (off := 190) 309 dR_value_119 (by decide) (by decide) (by decide) (by decide) ?_
  refine rk_aload_n dR_value_309 rfl ?_
  refine rk_getf fR_54 dR_value_310 k.m rfl ?_
  refine rk_sipush (v := 128) dR_value_313 (by decide) ?_
  refine rk_iload_n dR_value_316 rfl ?_
  refine rk_imul dR_value_317 ?_
  refine rk_iload_n dR_value_318 rfl ?_
  refine rk_iadd dR_value_319 ?_
  rw [show (128 : Int32) = nI 128 from rfl, pk_mul, nI_add]
  refine rk_iald dR_value_320 k.ce (vp_in_nI (show 128 * stS X.N a + j < 1792 by omega) (by omega)) ?_
  rw [nI_clamp (show 128 * stS X.N a + j < 2 ^ 31 by omega)]
  exact rk_iret rfl dR_value_321 ⟨(Nat.le_of_ble_eq_true rfl), (Nat.le_of_ble_eq_true rfl)⟩ (⟨by unfold vNode; rw [if_neg (show ¬ (X.N n).kd = 0 by omega), if_neg (show ¬ (X.N n).kd = 3 by omega), if_neg (show ¬ (X.N n).kd = 4 by omega), if_neg (show ¬ (X.N n).kd = 5 by omega), if_pos hk], rfl⟩)
theorem c_R_value10 (b : rk_H) (A : Nat → Nat) (X : rX) (k : rA A) (n j : Nat) (V : vOK X n) (hj : j < (X.N n).ce) (hk : (X.N n).kd = 10) : rk_Con mR_value (4, 71, 0, 0) [.ref (A 0), .int (nI n), .int (nI j)] (rv b A X) (rk_Rv (.int (vR X n j)) (rv b A X)) := by
  obtain ⟨⟨hno, hn, hwf, hS⟩, hw8, h81, h82⟩ := id V
  obtain ⟨⟨bn, ⟨n1, n2, n3⟩, nsc⟩, hkind⟩ := hwf n hn
  have hce := bn.ce
  obtain ⟨y1, x1, c1⟩ := yxc (show j < (X.N n).h * (X.N n).w * (X.N n).c from hj)
  have bc := bn.1.2.2.2.1
  have bw := bn.1.2.2.1
  have bh := bn.1.2.1
  obtain ⟨a, ⟨ho, ha⟩, ht, hK⟩ : ∃ a : Nat, ((X.N n).one = some a ∧ a < n) ∧ (X.N n).two = none ∧ (shq (X.N n) (X.N a) = true ∧ d_good (ratA X.N n) = true) := by
    rcases hkind with ⟨h, -⟩ | ⟨a, h1, h2, h⟩ | ⟨a, c, -, -, h⟩
    · omega
    · refine ⟨a, h1, h2, ?_⟩
      rcases h with h | h | h | h | h | h | h <;> first | exact absurd h.1 (by omega) | exact h.2
    · omega
  obtain ⟨s1l, ⟨s1h, s1w, s1c⟩, s1ce, s1sc⟩ := V.s (show a < X.no by omega)
  have e1S : mnt X.st (some a) = nI (stS X.N a) := hS a (by omega)
  have bs := wfN.bd hwf (stS X.N a) (by omega)
  have bsc := bs.ce
  have f8 : ∀ z, z < (X.N (stS X.N a)).ce → in8 (X.ce (128 * stS X.N a + z)) := fun z hz => h81 a ho z (by rw [s1ce]; exact hz)
  have eV := vR_o (j := j) V ho (show a < X.no by omega)
  rw [eV]
  have eR : ratA X.N n = FP.ddiv (X.N (stS X.N a)).sc (X.N n).sc := by
    unfold ratA scO
    rw [ho, if_neg (by omega), if_pos (by omega), ← s1sc]
  have hgood : d_good (FP.ddiv (X.N (stS X.N a)).sc (X.N n).sc) = true := by rw [← eR]; exact hK.2
  have hvv := fp_rat2 bs.2.1 ⟨nsc, bn.2.1⟩
  have ece := shq_ce hK.1
  refine rk_Con.of [some (.ref (A 0)), some (.int (nI n)), some (.int (nI j)), none, none, none, none, none, none, none] rfl (Nat.le_of_ble_eq_true rfl) (by decide +kernel) ?_
  refine rk_aload_n dR_value_0 rfl ?_
  refine rk_aload_n dR_value_1 rfl ?_
  refine rk_getf fR_20 dR_value_2 k.m rfl ?_
  refine rk_iload_n dR_value_5 rfl ?_
  refine rk_iald dR_value_6 k.on (vp_in_nI (show n < 14 by omega) (by omega)) ?_
  rw [nI_clamp (show n < 2 ^ 31 by omega), ho]
  refine rk_cvV (c_R_standFor b A X k (some a) (fun z hz => by cases hz; omega)) cR_143 dR_value_7 rfl lR_standFor (Nat.le_of_ble_eq_true rfl) (Nat.le_of_ble_eq_true rfl) (Nat.le_of_ble_eq_true rfl) (Nat.le_of_ble_eq_true rfl) k.m ?_
  rw [e1S]
  refine rk_istore_n dR_value_10 (Nat.le_of_ble_eq_true rfl) ?_
  refine rk_lv [some (.ref (A 0)), some (.int (nI n)), some (.int (nI j)), some (.int (nI (stS X.N a))), none, none, none, none, none, none] ⟨rfl, rfl, rfl, rfl, trivial⟩ ?_
  refine rk_aload_n dR_value_11 rfl ?_
  refine rk_aload_n dR_value_12 rfl ?_
  refine rk_getf fR_23 dR_value_13 k.m rfl ?_
  refine rk_iload_n dR_value_16 rfl ?_
  refine rk_iald dR_value_17 k.tw (vp_in_nI (show n < 14 by omega) (by omega)) ?_
  rw [nI_clamp (show n < 2 ^ 31 by omega), ht]
  refine rk_cvV (c_R_standFor b A X k none (fun z hz => by cases hz)) cR_143 dR_value_18 rfl lR_standFor (Nat.le_of_ble_eq_true rfl) (Nat.le_of_ble_eq_true rfl) (Nat.le_of_ble_eq_true rfl) (Nat.le_of_ble_eq_true rfl) k.m ?_
  rw [show mnt X.st none = -1 from rfl]
  refine rk_istore dR_value_21 (Nat.le_of_ble_eq_true rfl) ?_
  refine rk_lv [some (.ref (A 0)), some (.int (nI n)), some (.int (nI j)), some (.int (nI (stS X.N a))), some (.int (-1)), none, none, none, none, none] ⟨rfl, rfl, rfl, rfl, rfl, trivial⟩ ?_
  refine rk_iload_n dR_value_23 rfl ?_
  refine rk_aload_n dR_value_24 rfl ?_
  refine rk_getf fR_32 dR_value_25 k.m rfl ?_
  refine rk_iload_n dR_value_28 rfl ?_
  refine rk_iald dR_value_29 k.de (vp_in_nI (show n < 14 by omega) (by omega)) ?_
  rw [nI_clamp (show n < 2 ^ 31 by omega)]
  refine rk_irem dR_value_30 (nI_ne0 (by omega) (by omega)) ?_
  rw [pk_rem (by omega) (by omega) (by omega)]
  refine rk_istore dR_value_31 (Nat.le_of_ble_eq_true rfl) ?_
  refine rk_lv [some (.ref (A 0)), some (.int (nI n)), some (.int (nI j)), some (.int (nI (stS X.N a))), some (.int (-1)), some (.int (nI (j % (X.N n).c))), none, none, none, none] ⟨rfl, rfl, rfl, rfl, rfl, rfl, trivial⟩ ?_
  refine rk_iload_n dR_value_33 rfl ?_
  refine rk_aload_n dR_value_34 rfl ?_
  refine rk_getf fR_32 dR_value_35 k.m rfl ?_
  refine rk_iload_n dR_value_38 rfl ?_
  refine rk_iald dR_value_39 k.de (vp_in_nI (show n < 14 by omega) (by omega)) ?_
  rw [nI_clamp (show n < 2 ^ 31 by omega)]
  refine rk_idiv dR_value_40 (nI_ne0 (by omega) (by omega)) ?_
  rw [pk_div (by omega) (by omega) (by omega)]
  refine rk_aload_n dR_value_41 rfl ?_
  refine rk_getf fR_29 dR_value_42 k.m rfl ?_
  refine rk_iload_n dR_value_45 rfl ?_
  refine rk_iald dR_value_46 k.wi (vp_in_nI (show n < 14 by omega) (by omega)) ?_
  rw [nI_clamp (show n < 2 ^ 31 by omega)]
  refine rk_irem dR_value_47 (nI_ne0 (by omega) (by omega)) ?_
  rw [pk_rem (by have := Nat.div_le_self j (X.N n).c; omega) (by omega) (by omega)]
  refine rk_istore dR_value_48 (Nat.le_of_ble_eq_true rfl) ?_
  refine rk_lv [some (.ref (A 0)), some (.int (nI n)), some (.int (nI j)), some (.int (nI (stS X.N a))), some (.int (-1)), some (.int (nI (j % (X.N n).c))), some (.int (nI (j / (X.N n).c % (X.N n).w))), none, none, none] ⟨rfl, rfl, rfl, rfl, rfl, rfl, rfl, trivial⟩ ?_
  refine rk_iload_n dR_value_50 rfl ?_
  refine rk_aload_n dR_value_51 rfl ?_
  refine rk_getf fR_32 dR_value_52 k.m rfl ?_
  refine rk_iload_n dR_value_55 rfl ?_
  refine rk_iald dR_value_56 k.de (vp_in_nI (show n < 14 by omega) (by omega)) ?_
  rw [nI_clamp (show n < 2 ^ 31 by omega)]
  refine rk_idiv dR_value_57 (nI_ne0 (by omega) (by omega)) ?_
  rw [pk_div (by omega) (by omega) (by omega)]
  refine rk_aload_n dR_value_58 rfl ?_
  refine rk_getf fR_29 dR_value_59 k.m rfl ?_
  refine rk_iload_n dR_value_62 rfl ?_
  refine rk_iald dR_value_63 k.wi (vp_in_nI (show n < 14 by omega) (by omega)) ?_
  rw [nI_clamp (show n < 2 ^ 31 by omega)]
  refine rk_idiv dR_value_64 (nI_ne0 (by omega) (by omega)) ?_
  rw [pk_div (by have := Nat.div_le_self j (X.N n).c; omega) (by omega) (by omega)]
  refine rk_istore dR_value_65 (Nat.le_of_ble_eq_true rfl) ?_
  refine rk_lv [some (.ref (A 0)), some (.int (nI n)), some (.int (nI j)), some (.int (nI (stS X.N a))), some (.int (-1)), some (.int (nI (j % (X.N n).c))), some (.int (nI (j / (X.N n).c % (X.N n).w))), some (.int (nI (j / (X.N n).c / (X.N n).w))), none, none] ⟨rfl, rfl, rfl, rfl, rfl, rfl, rfl, rfl, trivial⟩ ?_
  refine rk_aload_n dR_value_67 rfl ?_
  refine rk_getf fR_17 dR_value_68 k.m rfl ?_
  refine rk_iload_n dR_value_71 rfl ?_
  refine rk_iald dR_value_72 k.kd (vp_in_nI (show n < 14 by omega) (by omega)) ?_
  rw [nI_clamp (show n < 2 ^ 31 by omega), hk]
  refine rk_iconst (v := 1) dR_value_73 (by decide) ?_
  refine rk_icmp_lt 110 dR_value_74 (by decide) (fun q_74 => (by exact absurd q_74 (by decide))) (fun q_74 => ?_)
  refine rk_aload_n dR_value_77 rfl ?_
  refine rk_getf fR_17 dR_value_78 k.m rfl ?_
  refine rk_iload_n dR_value_81 rfl ?_
  refine rk_iald dR_value_82 k.kd (vp_in_nI (show n < 14 by omega) (by omega)) ?_
  rw [nI_clamp (show n < 2 ^ 31 by omega), hk]
  refine rk_iconst (v := 3) dR_value_83 (by decide) ?_
  refine rk_icmp_gt 110 dR_value_84 (by decide) (fun q_84 => ?_) (fun q_84 => (by exact absurd (by decide) q_84))
  refine rk_dconst0 dR_value_110 ?_
  refine rk_dstore dR_value_111 (Nat.le_of_ble_eq_true rfl) ?_
  refine rk_lv [some (.ref (A 0)), some (.int (nI n)), some (.int (nI j)), some (.int (nI (stS X.N a))), some (.int (-1)), some (.int (nI (j % (X.N n).c))), some (.int (nI (j / (X.N n).c % (X.N n).w))), some (.int (nI (j / (X.N n).c / (X.N n).w))), some (.double FP.dconst0), none] ⟨rfl, rfl, rfl, rfl, rfl, rfl, rfl, rfl, rfl, trivial⟩ ?_
  refine rk_aload_n dR_value_113 rfl ?_
  refine rk_getf fR_17 dR_value_114 k.m rfl ?_
  refine rk_iload_n dR_value_117 rfl ?_
  refine rk_iald dR_value_118 k.kd (vp_in_nI (show n < 14 by omega) (by omega)) ?_
  rw [nI_clamp (show n < 2 ^ 31 by omega), hk]
  refine rk_tableOut 408 dR_value_119 (by decide) (by decide) ?_
  refine rk_aload_n dR_value_408 rfl ?_
  refine rk_aload_n dR_value_409 rfl ?_
  refine rk_aload_n dR_value_410 rfl ?_
  refine rk_getf fR_54 dR_value_411 k.m rfl ?_
  refine rk_sipush (v := 128) dR_value_414 (by decide) ?_
  refine rk_iload_n dR_value_417 rfl ?_
  refine rk_imul dR_value_418 ?_
  refine rk_iload_n dR_value_419 rfl ?_
  refine rk_iadd dR_value_420 ?_
  rw [show (128 : Int32) = nI 128 from rfl, pk_mul, nI_add]
  refine rk_iald dR_value_421 k.ce (vp_in_nI (show 128 * stS X.N a + j < 1792 by omega) (by omega)) ?_
  rw [nI_clamp (show 128 * stS X.N a + j < 2 ^ 31 by omega)]
  refine rk_i2l dR_value_422 ?_
  refine rk_aload_n dR_value_423 rfl ?_
  refine rk_getf fR_35 dR_value_424 k.m rfl ?_
  refine rk_iload_n dR_value_427 rfl ?_
  refine rk_dald dR_value_428 k.sc (vp_in_nI (show stS X.N a < 14 by omega) (by omega)) ?_
  rw [nI_clamp (show stS X.N a < 2 ^ 31 by omega)]
  refine rk_aload_n dR_value_429 rfl ?_
  refine rk_getf fR_35 dR_value_430 k.m rfl ?_
  refine rk_iload_n dR_value_433 rfl ?_
  refine rk_dald dR_value_434 k.sc (vp_in_nI (show n < 14 by omega) (by omega)) ?_
  rw [nI_clamp (show n < 2 ^ 31 by omega)]
  refine rk_ddiv dR_value_435 hvv ?_
  refine rk_cvV (c_R_scaled b A X k _ (FP.ddiv (X.N (stS X.N a)).sc (X.N n).sc) hgood) cR_210 dR_value_436 rfl lR_scaled (Nat.le_of_ble_eq_true rfl) (Nat.le_of_ble_eq_true rfl) (Nat.le_of_ble_eq_true rfl) (Nat.le_of_ble_eq_true rfl) k.m ?_
  refine rk_cvV (c_R_cut b A X _) cR_214 dR_value_439 rfl lR_cut (Nat.le_of_ble_eq_true rfl) (Nat.le_of_ble_eq_true rfl) (Nat.le_of_ble_eq_true rfl) (Nat.le_of_ble_eq_true rfl) k.m ?_
  exact rk_iret rfl dR_value_442 ⟨(Nat.le_of_ble_eq_true rfl), (Nat.le_of_ble_eq_true rfl)⟩ (⟨by unfold vNode; rw [if_neg (show ¬ (X.N n).kd = 0 by omega), if_neg (show ¬ (X.N n).kd = 3 by omega), if_neg (show ¬ (X.N n).kd = 4 by omega), if_neg (show ¬ (X.N n).kd = 5 by omega), if_neg (show ¬ (X.N n).kd = 6 by omega), if_neg (show ¬ (X.N n).kd = 9 by omega), if_pos hk]; rw [eR, scR_by hgood], rfl⟩)
theorem c_R_value4 (b : rk_H) (A : Nat → Nat) (X : rX) (k : rA A) (n j : Nat) (V : vOK X n) (hj : j < (X.N n).ce) (hk : (X.N n).kd = 4) : rk_Con mR_value (4, 71, 0, 0) [.ref (A 0), .int (nI n), .int (nI j)] (rv b A X) (rk_Rv (.int (vR X n j)) (rv b A X)) := by
  obtain ⟨⟨hno, hn, hwf, hS⟩, hw8, h81, h82⟩ := id V
  obtain ⟨⟨bn, ⟨n1, n2, n3⟩, nsc⟩, hkind⟩ := hwf n hn
  have hce := bn.ce
  obtain ⟨y1, x1, c1⟩ := yxc (show j < (X.N n).h * (X.N n).w * (X.N n).c from hj)
  have bc := bn.1.2.2.2.1
  have bw := bn.1.2.2.1
  have bh := bn.1.2.1
  obtain ⟨a, a2, ⟨ho, ha⟩, ⟨ht, ha2⟩, hK⟩ : ∃ a a2 : Nat, ((X.N n).one = some a ∧ a < n) ∧ ((X.N n).two = some a2 ∧ a2 < n) ∧ (shq (X.N n) (X.N a) = true ∧ shq (X.N n) (X.N a2) = true ∧ d_good (ratA X.N n) = true ∧ d_good (ratB X.N n) = true) := by
    rcases hkind with ⟨h, -⟩ | ⟨a, -, -, h⟩ | ⟨a, c, h1, h2, h⟩
    · omega
    · omega
    · refine ⟨a, c, h1, h2, ?_⟩
      rcases h with h | h <;> first | exact absurd h.1 (by omega) | exact h.2
  obtain ⟨s2l, ⟨s2h, s2w, s2c⟩, s2ce, s2sc⟩ := V.s (show a2 < X.no by omega)
  have e2S : mnt X.st (some a2) = nI (stS X.N a2) := hS a2 (by omega)
  have b2n := wfN.bd hwf (stS X.N a2) (by omega)
  have b2c := b2n.ce
  obtain ⟨s1l, ⟨s1h, s1w, s1c⟩, s1ce, s1sc⟩ := V.s (show a < X.no by omega)
  have e1S : mnt X.st (some a) = nI (stS X.N a) := hS a (by omega)
  have bs := wfN.bd hwf (stS X.N a) (by omega)
  have bsc := bs.ce
  have f8 : ∀ z, z < (X.N (stS X.N a)).ce → in8 (X.ce (128 * stS X.N a + z)) := fun z hz => h81 a ho z (by rw [s1ce]; exact hz)
  have eV := vR_o (j := j) V ho (show a < X.no by omega)
  rw [eV]
  have eR : ratA X.N n = FP.ddiv (X.N (stS X.N a)).sc (X.N n).sc := by
    unfold ratA scO
    rw [ho, if_neg (by omega), if_pos (by omega), ← s1sc]
  have hgood : d_good (FP.ddiv (X.N (stS X.N a)).sc (X.N n).sc) = true := by rw [← eR]; exact hK.2.2.1
  have hvv := fp_rat2 bs.2.1 ⟨nsc, bn.2.1⟩
  have eR2 : ratB X.N n = FP.ddiv (X.N (stS X.N a2)).sc (X.N n).sc := by
    unfold ratB scO
    rw [ht, if_pos hk, ← s2sc]
  have hgood2 : d_good (FP.ddiv (X.N (stS X.N a2)).sc (X.N n).sc) = true := by rw [← eR2]; exact hK.2.2.2
  have hvv2 := fp_rat2 b2n.2.1 ⟨nsc, bn.2.1⟩
  have ece := shq_ce hK.1
  refine rk_Con.of [some (.ref (A 0)), some (.int (nI n)), some (.int (nI j)), none, none, none, none, none, none, none] rfl (Nat.le_of_ble_eq_true rfl) (by decide +kernel) ?_
  refine rk_aload_n dR_value_0 rfl ?_
  refine rk_aload_n dR_value_1 rfl ?_
  refine rk_getf fR_20 dR_value_2 k.m rfl ?_
  refine rk_iload_n dR_value_5 rfl ?_
  refine rk_iald dR_value_6 k.on (vp_in_nI (show n < 14 by omega) (by omega)) ?_
  rw [nI_clamp (show n < 2 ^ 31 by omega), ho]
  refine rk_cvV (c_R_standFor b A X k (some a) (fun z hz => by cases hz; omega)) cR_143 dR_value_7 rfl lR_standFor (Nat.le_of_ble_eq_true rfl) (Nat.le_of_ble_eq_true rfl) (Nat.le_of_ble_eq_true rfl) (Nat.le_of_ble_eq_true rfl) k.m ?_
  rw [e1S]
  refine rk_istore_n dR_value_10 (Nat.le_of_ble_eq_true rfl) ?_
  refine rk_lv [some (.ref (A 0)), some (.int (nI n)), some (.int (nI j)), some (.int (nI (stS X.N a))), none, none, none, none, none, none] ⟨rfl, rfl, rfl, rfl, trivial⟩ ?_
  refine rk_aload_n dR_value_11 rfl ?_
  refine rk_aload_n dR_value_12 rfl ?_
  refine rk_getf fR_23 dR_value_13 k.m rfl ?_
  refine rk_iload_n dR_value_16 rfl ?_
  refine rk_iald dR_value_17 k.tw (vp_in_nI (show n < 14 by omega) (by omega)) ?_
  rw [nI_clamp (show n < 2 ^ 31 by omega), ht]
  refine rk_cvV (c_R_standFor b A X k (some a2) (fun z hz => by cases hz; omega)) cR_143 dR_value_18 rfl lR_standFor (Nat.le_of_ble_eq_true rfl) (Nat.le_of_ble_eq_true rfl) (Nat.le_of_ble_eq_true rfl) (Nat.le_of_ble_eq_true rfl) k.m ?_
  rw [e2S]
  refine rk_istore dR_value_21 (Nat.le_of_ble_eq_true rfl) ?_
  refine rk_lv [some (.ref (A 0)), some (.int (nI n)), some (.int (nI j)), some (.int (nI (stS X.N a))), some (.int (nI (stS X.N a2))), none, none, none, none, none] ⟨rfl, rfl, rfl, rfl, rfl, trivial⟩ ?_
  refine rk_iload_n dR_value_23 rfl ?_
  refine rk_aload_n dR_value_24 rfl ?_
  refine rk_getf fR_32 dR_value_25 k.m rfl ?_
  refine rk_iload_n dR_value_28 rfl ?_
  refine rk_iald dR_value_29 k.de (vp_in_nI (show n < 14 by omega) (by omega)) ?_
  rw [nI_clamp (show n < 2 ^ 31 by omega)]
  refine rk_irem dR_value_30 (nI_ne0 (by omega) (by omega)) ?_
  rw [pk_rem (by omega) (by omega) (by omega)]
  refine rk_istore dR_value_31 (Nat.le_of_ble_eq_true rfl) ?_
  refine rk_lv [some (.ref (A 0)), some (.int (nI n)), some (.int (nI j)), some (.int (nI (stS X.N a))), some (.int (nI (stS X.N a2))), some (.int (nI (j % (X.N n).c))), none, none, none, none] ⟨rfl, rfl, rfl, rfl, rfl, rfl, trivial⟩ ?_
  refine rk_iload_n dR_value_33 rfl ?_
  refine rk_aload_n dR_value_34 rfl ?_
  refine rk_getf fR_32 dR_value_35 k.m rfl ?_
  refine rk_iload_n dR_value_38 rfl ?_
  refine rk_iald dR_value_39 k.de (vp_in_nI (show n < 14 by omega) (by omega)) ?_
  rw [nI_clamp (show n < 2 ^ 31 by omega)]
  refine rk_idiv dR_value_40 (nI_ne0 (by omega) (by omega)) ?_
  rw [pk_div (by omega) (by omega) (by omega)]
  refine rk_aload_n dR_value_41 rfl ?_
  refine rk_getf fR_29 dR_value_42 k.m rfl ?_
  refine rk_iload_n dR_value_45 rfl ?_
  refine rk_iald dR_value_46 k.wi (vp_in_nI (show n < 14 by omega) (by omega)) ?_
  rw [nI_clamp (show n < 2 ^ 31 by omega)]
  refine rk_irem dR_value_47 (nI_ne0 (by omega) (by omega)) ?_
  rw [pk_rem (by have := Nat.div_le_self j (X.N n).c; omega) (by omega) (by omega)]
  refine rk_istore dR_value_48 (Nat.le_of_ble_eq_true rfl) ?_
  refine rk_lv [some (.ref (A 0)), some (.int (nI n)), some (.int (nI j)), some (.int (nI (stS X.N a))), some (.int (nI (stS X.N a2))), some (.int (nI (j % (X.N n).c))), some (.int (nI (j / (X.N n).c % (X.N n).w))), none, none, none] ⟨rfl, rfl, rfl, rfl, rfl, rfl, rfl, trivial⟩ ?_
  refine rk_iload_n dR_value_50 rfl ?_
  refine rk_aload_n dR_value_51 rfl ?_
  refine rk_getf fR_32 dR_value_52 k.m rfl ?_
  refine rk_iload_n dR_value_55 rfl ?_
  refine rk_iald dR_value_56 k.de (vp_in_nI (show n < 14 by omega) (by omega)) ?_
  rw [nI_clamp (show n < 2 ^ 31 by omega)]
  refine rk_idiv dR_value_57 (nI_ne0 (by omega) (by omega)) ?_
  rw [pk_div (by omega) (by omega) (by omega)]
  refine rk_aload_n dR_value_58 rfl ?_
  refine rk_getf fR_29 dR_value_59 k.m rfl ?_
  refine rk_iload_n dR_value_62 rfl ?_
  refine rk_iald dR_value_63 k.wi (vp_in_nI (show n < 14 by omega) (by omega)) ?_
  rw [nI_clamp (show n < 2 ^ 31 by omega)]
  refine rk_idiv dR_value_64 (nI_ne0 (by omega) (by omega)) ?_
  rw [pk_div (by have := Nat.div_le_self j (X.N n).c; omega) (by omega) (by omega)]
  refine rk_istore dR_value_65 (Nat.le_of_ble_eq_true rfl) ?_
  refine rk_lv [some (.ref (A 0)), some (.int (nI n)), some (.int (nI j)), some (.int (nI (stS X.N a))), some (.int (nI (stS X.N a2))), some (.int (nI (j % (X.N n).c))), some (.int (nI (j / (X.N n).c % (X.N n).w))), some (.int (nI (j / (X.N n).c / (X.N n).w))), none, none] ⟨rfl, rfl, rfl, rfl, rfl, rfl, rfl, rfl, trivial⟩ ?_
  refine rk_aload_n dR_value_67 rfl ?_
  refine rk_getf fR_17 dR_value_68 k.m rfl ?_
  refine rk_iload_n dR_value_71 rfl ?_
  refine rk_iald dR_value_72 k.kd (vp_in_nI (show n < 14 by omega) (by omega)) ?_
  rw [nI_clamp (show n < 2 ^ 31 by omega), hk]
  refine rk_iconst (v := 1) dR_value_73 (by decide) ?_
  refine rk_icmp_lt 110 dR_value_74 (by decide) (fun q_74 => (by exact absurd q_74 (by decide))) (fun q_74 => ?_)
  refine rk_aload_n dR_value_77 rfl ?_
  refine rk_getf fR_17 dR_value_78 k.m rfl ?_
  refine rk_iload_n dR_value_81 rfl ?_
  refine rk_iald dR_value_82 k.kd (vp_in_nI (show n < 14 by omega) (by omega)) ?_
  rw [nI_clamp (show n < 2 ^ 31 by omega), hk]
  refine rk_iconst (v := 3) dR_value_83 (by decide) ?_
  refine rk_icmp_gt 110 dR_value_84 (by decide) (fun q_84 => ?_) (fun q_84 => (by exact absurd (by decide) q_84))
  refine rk_dconst0 dR_value_110 ?_
  refine rk_dstore dR_value_111 (Nat.le_of_ble_eq_true rfl) ?_
  refine rk_lv [some (.ref (A 0)), some (.int (nI n)), some (.int (nI j)), some (.int (nI (stS X.N a))), some (.int (nI (stS X.N a2))), some (.int (nI (j % (X.N n).c))), some (.int (nI (j / (X.N n).c % (X.N n).w))), some (.int (nI (j / (X.N n).c / (X.N n).w))), some (.double FP.dconst0), none] ⟨rfl, rfl, rfl, rfl, rfl, rfl, rfl, rfl, rfl, trivial⟩ ?_
  refine rk_aload_n dR_value_113 rfl ?_
  refine rk_getf fR_17 dR_value_114 k.m rfl ?_
  refine rk_iload_n dR_value_117 rfl ?_
  refine rk_iald dR_value_118 k.kd (vp_in_nI (show n < 14 by omega) (by omega)) ?_
  rw [nI_clamp (show n < 2 ^ 31 by omega), hk]
  refine rk_tableIn (off := 108) 227 dR_value_119 (by decide) (by decide) (by decide) (by decide) ?_
  refine rk_aload_n dR_value_227 rfl ?_
  refine rk_aload_n dR_value_228 rfl ?_
  refine rk_aload_n dR_value_229 rfl ?_
  refine rk_getf fR_54 dR_value_230 k.m rfl ?_
  refine rk_sipush (v := 128) dR_value_233 (by decide) ?_
  refine rk_iload_n dR_value_236 rfl ?_
  refine rk_imul dR_value_237 ?_
  refine rk_iload_n dR_value_238 rfl ?_
  refine rk_iadd dR_value_239 ?_
  rw [show (128 : Int32) = nI 128 from rfl, pk_mul, nI_add]
  refine rk_iald dR_value_240 k.ce (vp_in_nI (show 128 * stS X.N a + j < 1792 by omega) (by omega)) ?_
  rw [nI_clamp (show 128 * stS X.N a + j < 2 ^ 31 by omega)]
  refine rk_i2l dR_value_241 ?_
  refine rk_aload_n dR_value_242 rfl ?_
  refine rk_getf fR_35 dR_value_243 k.m rfl ?_
  refine rk_iload_n dR_value_246 rfl ?_
  refine rk_dald dR_value_247 k.sc (vp_in_nI (show stS X.N a < 14 by omega) (by omega)) ?_
  rw [nI_clamp (show stS X.N a < 2 ^ 31 by omega)]
  refine rk_aload_n dR_value_248 rfl ?_
  refine rk_getf fR_35 dR_value_249 k.m rfl ?_
  refine rk_iload_n dR_value_252 rfl ?_
  refine rk_dald dR_value_253 k.sc (vp_in_nI (show n < 14 by omega) (by omega)) ?_
  rw [nI_clamp (show n < 2 ^ 31 by omega)]
  refine rk_ddiv dR_value_254 hvv ?_
  refine rk_cvV (c_R_scaled b A X k _ (FP.ddiv (X.N (stS X.N a)).sc (X.N n).sc) hgood) cR_210 dR_value_255 rfl lR_scaled (Nat.le_of_ble_eq_true rfl) (Nat.le_of_ble_eq_true rfl) (Nat.le_of_ble_eq_true rfl) (Nat.le_of_ble_eq_true rfl) k.m ?_
  refine rk_aload_n dR_value_258 rfl ?_
  refine rk_aload_n dR_value_259 rfl ?_
  refine rk_getf fR_54 dR_value_260 k.m rfl ?_
  refine rk_sipush (v := 128) dR_value_263 (by decide) ?_
  refine rk_iload dR_value_266 rfl ?_
  refine rk_imul dR_value_268 ?_
  refine rk_iload_n dR_value_269 rfl ?_
  refine rk_iadd dR_value_270 ?_
  rw [show (128 : Int32) = nI 128 from rfl, pk_mul, nI_add]
  refine rk_iald dR_value_271 k.ce (vp_in_nI (show 128 * stS X.N a2 + j < 1792 by omega) (by omega)) ?_
  rw [nI_clamp (show 128 * stS X.N a2 + j < 2 ^ 31 by omega)]
  refine rk_i2l dR_value_272 ?_
  refine rk_aload_n dR_value_273 rfl ?_
  refine rk_getf fR_35 dR_value_274 k.m rfl ?_
  refine rk_iload dR_value_277 rfl ?_
  refine rk_dald dR_value_279 k.sc (vp_in_nI (show stS X.N a2 < 14 by omega) (by omega)) ?_
  rw [nI_clamp (show stS X.N a2 < 2 ^ 31 by omega)]
  refine rk_aload_n dR_value_280 rfl ?_
  refine rk_getf fR_35 dR_value_281 k.m rfl ?_
  refine rk_iload_n dR_value_284 rfl ?_
  refine rk_dald dR_value_285 k.sc (vp_in_nI (show n < 14 by omega) (by omega)) ?_
  rw [nI_clamp (show n < 2 ^ 31 by omega)]
  refine rk_ddiv dR_value_286 hvv2 ?_
  refine rk_cvV (c_R_scaled b A X k _ (FP.ddiv (X.N (stS X.N a2)).sc (X.N n).sc) hgood2) cR_210 dR_value_287 rfl lR_scaled (Nat.le_of_ble_eq_true rfl) (Nat.le_of_ble_eq_true rfl) (Nat.le_of_ble_eq_true rfl) (Nat.le_of_ble_eq_true rfl) k.m ?_
  refine rk_ladd dR_value_290 ?_
  refine rk_cvV (c_R_cut b A X _) cR_214 dR_value_291 rfl lR_cut (Nat.le_of_ble_eq_true rfl) (Nat.le_of_ble_eq_true rfl) (Nat.le_of_ble_eq_true rfl) (Nat.le_of_ble_eq_true rfl) k.m ?_
  exact rk_iret rfl dR_value_294 ⟨(Nat.le_of_ble_eq_true rfl), (Nat.le_of_ble_eq_true rfl)⟩ (⟨by unfold vNode; rw [if_neg (show ¬ (X.N n).kd = 0 by omega), if_neg (show ¬ (X.N n).kd = 3 by omega), if_pos hk]; rw [eR, eR2]; unfold s_add scR; rw [hv_scl hgood, hv_scl hgood2]; rfl, rfl⟩)
theorem c_R_value9 (b : rk_H) (A : Nat → Nat) (X : rX) (k : rA A) (n j : Nat) (V : vOK X n) (hj : j < (X.N n).ce) (hk : (X.N n).kd = 9) : rk_Con mR_value (4, 71, 0, 0) [.ref (A 0), .int (nI n), .int (nI j)] (rv b A X) (rk_Rv (.int (vR X n j)) (rv b A X)) := by
  obtain ⟨⟨hno, hn, hwf, hS⟩, hw8, h81, h82⟩ := id V
  obtain ⟨⟨bn, ⟨n1, n2, n3⟩, nsc⟩, hkind⟩ := hwf n hn
  have hce := bn.ce
  obtain ⟨y1, x1, c1⟩ := yxc (show j < (X.N n).h * (X.N n).w * (X.N n).c from hj)
  have bc := bn.1.2.2.2.1
  have bw := bn.1.2.2.1
  have bh := bn.1.2.1
  obtain ⟨a, ⟨ho, ha⟩, ht, hK⟩ : ∃ a : Nat, ((X.N n).one = some a ∧ a < n) ∧ (X.N n).two = none ∧ (shq (X.N n) (X.N a) = true ∧ (X.N n).sc = (X.N a).sc ∧ (-128 ≤ (X.N n).lo ∧ (X.N n).lo ≤ (X.N n).hi ∧ (X.N n).hi ≤ 127)) := by
    rcases hkind with ⟨h, -⟩ | ⟨a, h1, h2, h⟩ | ⟨a, c, -, -, h⟩
    · omega
    · refine ⟨a, h1, h2, ?_⟩
      rcases h with h | h | h | h | h | h | h <;> first | exact absurd h.1 (by omega) | exact h.2
    · omega
  obtain ⟨s1l, ⟨s1h, s1w, s1c⟩, s1ce, s1sc⟩ := V.s (show a < X.no by omega)
  have e1S : mnt X.st (some a) = nI (stS X.N a) := hS a (by omega)
  have bs := wfN.bd hwf (stS X.N a) (by omega)
  have bsc := bs.ce
  have f8 : ∀ z, z < (X.N (stS X.N a)).ce → in8 (X.ce (128 * stS X.N a + z)) := fun z hz => h81 a ho z (by rw [s1ce]; exact hz)
  have eV := vR_o (j := j) V ho (show a < X.no by omega)
  rw [eV]
  have ece := shq_ce hK.1
  refine rk_Con.of [some (.ref (A 0)), some (.int (nI n)), some (.int (nI j)), none, none, none, none, none, none, none] rfl (Nat.le_of_ble_eq_true rfl) (by decide +kernel) ?_
  refine rk_aload_n dR_value_0 rfl ?_
  refine rk_aload_n dR_value_1 rfl ?_
  refine rk_getf fR_20 dR_value_2 k.m rfl ?_
  refine rk_iload_n dR_value_5 rfl ?_
  refine rk_iald dR_value_6 k.on (vp_in_nI (show n < 14 by omega) (by omega)) ?_
  rw [nI_clamp (show n < 2 ^ 31 by omega), ho]
  refine rk_cvV (c_R_standFor b A X k (some a) (fun z hz => by cases hz; omega)) cR_143 dR_value_7 rfl lR_standFor (Nat.le_of_ble_eq_true rfl) (Nat.le_of_ble_eq_true rfl) (Nat.le_of_ble_eq_true rfl) (Nat.le_of_ble_eq_true rfl) k.m ?_
  rw [e1S]
  refine rk_istore_n dR_value_10 (Nat.le_of_ble_eq_true rfl) ?_
  refine rk_lv [some (.ref (A 0)), some (.int (nI n)), some (.int (nI j)), some (.int (nI (stS X.N a))), none, none, none, none, none, none] ⟨rfl, rfl, rfl, rfl, trivial⟩ ?_
  refine rk_aload_n dR_value_11 rfl ?_
  refine rk_aload_n dR_value_12 rfl ?_
  refine rk_getf fR_23 dR_value_13 k.m rfl ?_
  refine rk_iload_n dR_value_16 rfl ?_
  refine rk_iald dR_value_17 k.tw (vp_in_nI (show n < 14 by omega) (by omega)) ?_
  rw [nI_clamp (show n < 2 ^ 31 by omega), ht]
  refine rk_cvV (c_R_standFor b A X k none (fun z hz => by cases hz)) cR_143 dR_value_18 rfl lR_standFor (Nat.le_of_ble_eq_true rfl) (Nat.le_of_ble_eq_true rfl) (Nat.le_of_ble_eq_true rfl) (Nat.le_of_ble_eq_true rfl) k.m ?_
  rw [show mnt X.st none = -1 from rfl]
  refine rk_istore dR_value_21 (Nat.le_of_ble_eq_true rfl) ?_
  refine rk_lv [some (.ref (A 0)), some (.int (nI n)), some (.int (nI j)), some (.int (nI (stS X.N a))), some (.int (-1)), none, none, none, none, none] ⟨rfl, rfl, rfl, rfl, rfl, trivial⟩ ?_
  refine rk_iload_n dR_value_23 rfl ?_
  refine rk_aload_n dR_value_24 rfl ?_
  refine rk_getf fR_32 dR_value_25 k.m rfl ?_
  refine rk_iload_n dR_value_28 rfl ?_
  refine rk_iald dR_value_29 k.de (vp_in_nI (show n < 14 by omega) (by omega)) ?_
  rw [nI_clamp (show n < 2 ^ 31 by omega)]
  refine rk_irem dR_value_30 (nI_ne0 (by omega) (by omega)) ?_
  rw [pk_rem (by omega) (by omega) (by omega)]
  refine rk_istore dR_value_31 (Nat.le_of_ble_eq_true rfl) ?_
  refine rk_lv [some (.ref (A 0)), some (.int (nI n)), some (.int (nI j)), some (.int (nI (stS X.N a))), some (.int (-1)), some (.int (nI (j % (X.N n).c))), none, none, none, none] ⟨rfl, rfl, rfl, rfl, rfl, rfl, trivial⟩ ?_
  refine rk_iload_n dR_value_33 rfl ?_
  refine rk_aload_n dR_value_34 rfl ?_
  refine rk_getf fR_32 dR_value_35 k.m rfl ?_
  refine rk_iload_n dR_value_38 rfl ?_
  refine rk_iald dR_value_39 k.de (vp_in_nI (show n < 14 by omega) (by omega)) ?_
  rw [nI_clamp (show n < 2 ^ 31 by omega)]
  refine rk_idiv dR_value_40 (nI_ne0 (by omega) (by omega)) ?_
  rw [pk_div (by omega) (by omega) (by omega)]
  refine rk_aload_n dR_value_41 rfl ?_
  refine rk_getf fR_29 dR_value_42 k.m rfl ?_
  refine rk_iload_n dR_value_45 rfl ?_
  refine rk_iald dR_value_46 k.wi (vp_in_nI (show n < 14 by omega) (by omega)) ?_
  rw [nI_clamp (show n < 2 ^ 31 by omega)]
  refine rk_irem dR_value_47 (nI_ne0 (by omega) (by omega)) ?_
  rw [pk_rem (by have := Nat.div_le_self j (X.N n).c; omega) (by omega) (by omega)]
  refine rk_istore dR_value_48 (Nat.le_of_ble_eq_true rfl) ?_
  refine rk_lv [some (.ref (A 0)), some (.int (nI n)), some (.int (nI j)), some (.int (nI (stS X.N a))), some (.int (-1)), some (.int (nI (j % (X.N n).c))), some (.int (nI (j / (X.N n).c % (X.N n).w))), none, none, none] ⟨rfl, rfl, rfl, rfl, rfl, rfl, rfl, trivial⟩ ?_
  refine rk_iload_n dR_value_50 rfl ?_
  refine rk_aload_n dR_value_51 rfl ?_
  refine rk_getf fR_32 dR_value_52 k.m rfl ?_
  refine rk_iload_n dR_value_55 rfl ?_
  refine rk_iald dR_value_56 k.de (vp_in_nI (show n < 14 by omega) (by omega)) ?_
  rw [nI_clamp (show n < 2 ^ 31 by omega)]
  refine rk_idiv dR_value_57 (nI_ne0 (by omega) (by omega)) ?_
  rw [pk_div (by omega) (by omega) (by omega)]
  refine rk_aload_n dR_value_58 rfl ?_
  refine rk_getf fR_29 dR_value_59 k.m rfl ?_
  refine rk_iload_n dR_value_62 rfl ?_
  refine rk_iald dR_value_63 k.wi (vp_in_nI (show n < 14 by omega) (by omega)) ?_
  rw [nI_clamp (show n < 2 ^ 31 by omega)]
  refine rk_idiv dR_value_64 (nI_ne0 (by omega) (by omega)) ?_
  rw [pk_div (by have := Nat.div_le_self j (X.N n).c; omega) (by omega) (by omega)]
  refine rk_istore dR_value_65 (Nat.le_of_ble_eq_true rfl) ?_
  refine rk_lv [some (.ref (A 0)), some (.int (nI n)), some (.int (nI j)), some (.int (nI (stS X.N a))), some (.int (-1)), some (.int (nI (j % (X.N n).c))), some (.int (nI (j / (X.N n).c % (X.N n).w))), some (.int (nI (j / (X.N n).c / (X.N n).w))), none, none] ⟨rfl, rfl, rfl, rfl, rfl, rfl, rfl, rfl, trivial⟩ ?_
  refine rk_aload_n dR_value_67 rfl ?_
  refine rk_getf fR_17 dR_value_68 k.m rfl ?_
  refine rk_iload_n dR_value_71 rfl ?_
  refine rk_iald dR_value_72 k.kd (vp_in_nI (show n < 14 by omega) (by omega)) ?_
  rw [nI_clamp (show n < 2 ^ 31 by omega), hk]
  refine rk_iconst (v := 1) dR_value_73 (by decide) ?_
  refine rk_icmp_lt 110 dR_value_74 (by decide) (fun q_74 => (by exact absurd q_74 (by decide))) (fun q_74 => ?_)
  refine rk_aload_n dR_value_77 rfl ?_
  refine rk_getf fR_17 dR_value_78 k.m rfl ?_
  refine rk_iload_n dR_value_81 rfl ?_
  refine rk_iald dR_value_82 k.kd (vp_in_nI (show n < 14 by omega) (by omega)) ?_
  rw [nI_clamp (show n < 2 ^ 31 by omega), hk]
  refine rk_iconst (v := 3) dR_value_83 (by decide) ?_
  refine rk_icmp_gt 110 dR_value_84 (by decide) (fun q_84 => ?_) (fun q_84 => (by exact absurd (by decide) q_84))
  refine rk_dconst0 dR_value_110 ?_
  refine rk_dstore dR_value_111 (Nat.le_of_ble_eq_true rfl) ?_
  refine rk_lv [some (.ref (A 0)), some (.int (nI n)), some (.int (nI j)), some (.int (nI (stS X.N a))), some (.int (-1)), some (.int (nI (j % (X.N n).c))), some (.int (nI (j / (X.N n).c % (X.N n).w))), some (.int (nI (j / (X.N n).c / (X.N n).w))), some (.double FP.dconst0), none] ⟨rfl, rfl, rfl, rfl, rfl, rfl, rfl, rfl, rfl, trivial⟩ ?_
  refine rk_aload_n dR_value_113 rfl ?_
  refine rk_getf fR_17 dR_value_114 k.m rfl ?_
  refine rk_iload_n dR_value_117 rfl ?_
  refine rk_iald dR_value_118 k.kd (vp_in_nI (show n < 14 by omega) (by omega)) ?_
  rw [nI_clamp (show n < 2 ^ 31 by omega), hk]
  refine rk_tableIn (off := 216) 335 dR_value_119 (by decide) (by decide) (by decide) (by decide) ?_
  refine rk_aload_n dR_value_335 rfl ?_
  refine rk_getf fR_54 dR_value_336 k.m rfl ?_
  refine rk_sipush (v := 128) dR_value_339 (by decide) ?_
  refine rk_iload_n dR_value_342 rfl ?_
  refine rk_imul dR_value_343 ?_
  refine rk_iload_n dR_value_344 rfl ?_
  refine rk_iadd dR_value_345 ?_
  rw [show (128 : Int32) = nI 128 from rfl, pk_mul, nI_add]
  refine rk_iald dR_value_346 k.ce (vp_in_nI (show 128 * stS X.N a + j < 1792 by omega) (by omega)) ?_
  rw [nI_clamp (show 128 * stS X.N a + j < 2 ^ 31 by omega)]
  refine rk_aload_n dR_value_347 rfl ?_
  refine rk_getf fR_48 dR_value_348 k.m rfl ?_
  refine rk_iload_n dR_value_351 rfl ?_
  refine rk_iald dR_value_352 k.lo (vp_in_nI (show n < 14 by omega) (by omega)) ?_
  rw [nI_clamp (show n < 2 ^ 31 by omega)]
  refine rk_icmp_ge 365 dR_value_353 (by decide) (fun q_353 => ?_) (fun q_353 => ?_)
  · refine rk_aload_n dR_value_365 rfl ?_
    refine rk_getf fR_54 dR_value_366 k.m rfl ?_
    refine rk_sipush (v := 128) dR_value_369 (by decide) ?_
    refine rk_iload_n dR_value_372 rfl ?_
    refine rk_imul dR_value_373 ?_
    refine rk_iload_n dR_value_374 rfl ?_
    refine rk_iadd dR_value_375 ?_
    rw [show (128 : Int32) = nI 128 from rfl, pk_mul, nI_add]
    refine rk_iald dR_value_376 k.ce (vp_in_nI (show 128 * stS X.N a + j < 1792 by omega) (by omega)) ?_
    rw [nI_clamp (show 128 * stS X.N a + j < 2 ^ 31 by omega)]
    refine rk_aload_n dR_value_377 rfl ?_
    refine rk_getf fR_51 dR_value_378 k.m rfl ?_
    refine rk_iload_n dR_value_381 rfl ?_
    refine rk_iald dR_value_382 k.to (vp_in_nI (show n < 14 by omega) (by omega)) ?_
    rw [nI_clamp (show n < 2 ^ 31 by omega)]
    refine rk_icmp_le 395 dR_value_383 (by decide) (fun q_383 => ?_) (fun q_383 => ?_)
    · refine rk_aload_n dR_value_395 rfl ?_
      refine rk_getf fR_54 dR_value_396 k.m rfl ?_
      refine rk_sipush (v := 128) dR_value_399 (by decide) ?_
      refine rk_iload_n dR_value_402 rfl ?_
      refine rk_imul dR_value_403 ?_
      refine rk_iload_n dR_value_404 rfl ?_
      refine rk_iadd dR_value_405 ?_
      rw [show (128 : Int32) = nI 128 from rfl, pk_mul, nI_add]
      refine rk_iald dR_value_406 k.ce (vp_in_nI (show 128 * stS X.N a + j < 1792 by omega) (by omega)) ?_
      first | rw [nI_clamp (show 128 * stS X.N a + j < 2 ^ 31 by omega)] | skip
      exact rk_iret rfl dR_value_407 ⟨(Nat.le_of_ble_eq_true rfl), (Nat.le_of_ble_eq_true rfl)⟩ (⟨by unfold vNode; rw [if_neg (show ¬ (X.N n).kd = 0 by omega), if_neg (show ¬ (X.N n).kd = 3 by omega), if_neg (show ¬ (X.N n).kd = 4 by omega), if_neg (show ¬ (X.N n).kd = 5 by omega), if_neg (show ¬ (X.N n).kd = 6 by omega), if_pos hk]; exact congrArg (fun v => Sum.inl (some v)) (clp_eq (by first | exact Or.inl ⟨Int32.not_le.mp q_353, rfl⟩ | exact Or.inr (Or.inl ⟨q_353, Int32.not_le.mp q_383, rfl⟩) | exact Or.inr (Or.inr ⟨q_353, q_383, rfl⟩)) hK.2.2.2.1), rfl⟩)
    · refine rk_aload_n dR_value_386 rfl ?_
      refine rk_getf fR_51 dR_value_387 k.m rfl ?_
      refine rk_iload_n dR_value_390 rfl ?_
      refine rk_iald dR_value_391 k.to (vp_in_nI (show n < 14 by omega) (by omega)) ?_
      rw [nI_clamp (show n < 2 ^ 31 by omega)]
      refine rk_goto 407 dR_value_392 (by decide) ?_
      first | rw [nI_clamp (show 128 * stS X.N a + j < 2 ^ 31 by omega)] | skip
      exact rk_iret rfl dR_value_407 ⟨(Nat.le_of_ble_eq_true rfl), (Nat.le_of_ble_eq_true rfl)⟩ (⟨by unfold vNode; rw [if_neg (show ¬ (X.N n).kd = 0 by omega), if_neg (show ¬ (X.N n).kd = 3 by omega), if_neg (show ¬ (X.N n).kd = 4 by omega), if_neg (show ¬ (X.N n).kd = 5 by omega), if_neg (show ¬ (X.N n).kd = 6 by omega), if_pos hk]; exact congrArg (fun v => Sum.inl (some v)) (clp_eq (by first | exact Or.inl ⟨Int32.not_le.mp q_353, rfl⟩ | exact Or.inr (Or.inl ⟨q_353, Int32.not_le.mp q_383, rfl⟩) | exact Or.inr (Or.inr ⟨q_353, q_383, rfl⟩)) hK.2.2.2.1), rfl⟩)
  · refine rk_aload_n dR_value_356 rfl ?_
    refine rk_getf fR_48 dR_value_357 k.m rfl ?_
    refine rk_iload_n dR_value_360 rfl ?_
    refine rk_iald dR_value_361 k.lo (vp_in_nI (show n < 14 by omega) (by omega)) ?_
    rw [nI_clamp (show n < 2 ^ 31 by omega)]
    refine rk_goto 407 dR_value_362 (by decide) ?_
    first | rw [nI_clamp (show 128 * stS X.N a + j < 2 ^ 31 by omega)] | skip
    exact rk_iret rfl dR_value_407 ⟨(Nat.le_of_ble_eq_true rfl), (Nat.le_of_ble_eq_true rfl)⟩ (⟨by unfold vNode; rw [if_neg (show ¬ (X.N n).kd = 0 by omega), if_neg (show ¬ (X.N n).kd = 3 by omega), if_neg (show ¬ (X.N n).kd = 4 by omega), if_neg (show ¬ (X.N n).kd = 5 by omega), if_neg (show ¬ (X.N n).kd = 6 by omega), if_pos hk]; exact congrArg (fun v => Sum.inl (some v)) (clp_eq (by first | exact Or.inl ⟨Int32.not_le.mp q_353, rfl⟩ | exact Or.inr (Or.inl ⟨q_353, Int32.not_le.mp q_383, rfl⟩) | exact Or.inr (Or.inr ⟨q_353, q_383, rfl⟩)) hK.2.2.2.1), rfl⟩)
theorem c_R_value3 (b : rk_H) (A : Nat → Nat) (X : rX) (k : rA A) (n j : Nat) (V : vOK X n) (hj : j < (X.N n).ce) (hk : (X.N n).kd = 3) : rk_Con mR_value (4, 71, 0, 0) [.ref (A 0), .int (nI n), .int (nI j)] (rv b A X) (rk_Rv (.int (vR X n j)) (rv b A X)) := by
  obtain ⟨⟨hno, hn, hwf, hS⟩, hw8, h81, h82⟩ := id V
  obtain ⟨⟨bn, ⟨n1, n2, n3⟩, nsc⟩, hkind⟩ := hwf n hn
  have hce := bn.ce
  obtain ⟨y1, x1, c1⟩ := yxc (show j < (X.N n).h * (X.N n).w * (X.N n).c from hj)
  have bc := bn.1.2.2.2.1
  have bw := bn.1.2.2.1
  have bh := bn.1.2.1
  obtain ⟨a, ⟨ho, ha⟩, ht, hK⟩ : ∃ a : Nat, ((X.N n).one = some a ∧ a < n) ∧ (X.N n).two = none ∧ (((X.N n).h = 1 ∧ (X.N n).w = 1) ∧ (X.N n).off + (X.N n).c * (X.N a).ce + (X.N n).c ≤ 512 ∧ d_good (ratA X.N n) = true) := by
    rcases hkind with ⟨h, -⟩ | ⟨a, h1, h2, h⟩ | ⟨a, c, -, -, h⟩
    · omega
    · refine ⟨a, h1, h2, ?_⟩
      rcases h with h | h | h | h | h | h | h <;> first | exact absurd h.1 (by omega) | exact h.2
    · omega
  obtain ⟨s1l, ⟨s1h, s1w, s1c⟩, s1ce, s1sc⟩ := V.s (show a < X.no by omega)
  have e1S : mnt X.st (some a) = nI (stS X.N a) := hS a (by omega)
  have bs := wfN.bd hwf (stS X.N a) (by omega)
  have bsc := bs.ce
  have f8 : ∀ z, z < (X.N (stS X.N a)).ce → in8 (X.ce (128 * stS X.N a + z)) := fun z hz => h81 a ho z (by rw [s1ce]; exact hz)
  have eV := vR_o (j := j) V ho (show a < X.no by omega)
  rw [eV]
  have eR : ratA X.N n = (FP.ddiv (FP.dmul (X.N (stS X.N a)).sc (X.N n).ws) (X.N n).sc) := by
    unfold ratA scO
    rw [ho, if_pos (by omega), ← s1sc]
  have hgood : d_good (FP.ddiv (FP.dmul (X.N (stS X.N a)).sc (X.N n).ws) (X.N n).sc) = true := by rw [← eR]; exact hK.2.2
  have hvv := fp_rat1 bs.2.1 bn.2.2 ⟨nsc, bn.2.1⟩
  refine rk_Con.of [some (.ref (A 0)), some (.int (nI n)), some (.int (nI j)), none, none, none, none, none, none, none] rfl (Nat.le_of_ble_eq_true rfl) (by decide +kernel) ?_
  refine rk_aload_n dR_value_0 rfl ?_
  refine rk_aload_n dR_value_1 rfl ?_
  refine rk_getf fR_20 dR_value_2 k.m rfl ?_
  refine rk_iload_n dR_value_5 rfl ?_
  refine rk_iald dR_value_6 k.on (vp_in_nI (show n < 14 by omega) (by omega)) ?_
  rw [nI_clamp (show n < 2 ^ 31 by omega), ho]
  refine rk_cvV (c_R_standFor b A X k (some a) (fun z hz => by cases hz; omega)) cR_143 dR_value_7 rfl lR_standFor (Nat.le_of_ble_eq_true rfl) (Nat.le_of_ble_eq_true rfl) (Nat.le_of_ble_eq_true rfl) (Nat.le_of_ble_eq_true rfl) k.m ?_
  rw [e1S]
  refine rk_istore_n dR_value_10 (Nat.le_of_ble_eq_true rfl) ?_
  refine rk_lv [some (.ref (A 0)), some (.int (nI n)), some (.int (nI j)), some (.int (nI (stS X.N a))), none, none, none, none, none, none] ⟨rfl, rfl, rfl, rfl, trivial⟩ ?_
  refine rk_aload_n dR_value_11 rfl ?_
  refine rk_aload_n dR_value_12 rfl ?_
  refine rk_getf fR_23 dR_value_13 k.m rfl ?_
  refine rk_iload_n dR_value_16 rfl ?_
  refine rk_iald dR_value_17 k.tw (vp_in_nI (show n < 14 by omega) (by omega)) ?_
  rw [nI_clamp (show n < 2 ^ 31 by omega), ht]
  refine rk_cvV (c_R_standFor b A X k none (fun z hz => by cases hz)) cR_143 dR_value_18 rfl lR_standFor (Nat.le_of_ble_eq_true rfl) (Nat.le_of_ble_eq_true rfl) (Nat.le_of_ble_eq_true rfl) (Nat.le_of_ble_eq_true rfl) k.m ?_
  rw [show mnt X.st none = -1 from rfl]
  refine rk_istore dR_value_21 (Nat.le_of_ble_eq_true rfl) ?_
  refine rk_lv [some (.ref (A 0)), some (.int (nI n)), some (.int (nI j)), some (.int (nI (stS X.N a))), some (.int (-1)), none, none, none, none, none] ⟨rfl, rfl, rfl, rfl, rfl, trivial⟩ ?_
  refine rk_iload_n dR_value_23 rfl ?_
  refine rk_aload_n dR_value_24 rfl ?_
  refine rk_getf fR_32 dR_value_25 k.m rfl ?_
  refine rk_iload_n dR_value_28 rfl ?_
  refine rk_iald dR_value_29 k.de (vp_in_nI (show n < 14 by omega) (by omega)) ?_
  rw [nI_clamp (show n < 2 ^ 31 by omega)]
  refine rk_irem dR_value_30 (nI_ne0 (by omega) (by omega)) ?_
  rw [pk_rem (by omega) (by omega) (by omega)]
  refine rk_istore dR_value_31 (Nat.le_of_ble_eq_true rfl) ?_
  refine rk_lv [some (.ref (A 0)), some (.int (nI n)), some (.int (nI j)), some (.int (nI (stS X.N a))), some (.int (-1)), some (.int (nI (j % (X.N n).c))), none, none, none, none] ⟨rfl, rfl, rfl, rfl, rfl, rfl, trivial⟩ ?_
  refine rk_iload_n dR_value_33 rfl ?_
  refine rk_aload_n dR_value_34 rfl ?_
  refine rk_getf fR_32 dR_value_35 k.m rfl ?_
  refine rk_iload_n dR_value_38 rfl ?_
  refine rk_iald dR_value_39 k.de (vp_in_nI (show n < 14 by omega) (by omega)) ?_
  rw [nI_clamp (show n < 2 ^ 31 by omega)]
  refine rk_idiv dR_value_40 (nI_ne0 (by omega) (by omega)) ?_
  rw [pk_div (by omega) (by omega) (by omega)]
  refine rk_aload_n dR_value_41 rfl ?_
  refine rk_getf fR_29 dR_value_42 k.m rfl ?_
  refine rk_iload_n dR_value_45 rfl ?_
  refine rk_iald dR_value_46 k.wi (vp_in_nI (show n < 14 by omega) (by omega)) ?_
  rw [nI_clamp (show n < 2 ^ 31 by omega)]
  refine rk_irem dR_value_47 (nI_ne0 (by omega) (by omega)) ?_
  rw [pk_rem (by have := Nat.div_le_self j (X.N n).c; omega) (by omega) (by omega)]
  refine rk_istore dR_value_48 (Nat.le_of_ble_eq_true rfl) ?_
  refine rk_lv [some (.ref (A 0)), some (.int (nI n)), some (.int (nI j)), some (.int (nI (stS X.N a))), some (.int (-1)), some (.int (nI (j % (X.N n).c))), some (.int (nI (j / (X.N n).c % (X.N n).w))), none, none, none] ⟨rfl, rfl, rfl, rfl, rfl, rfl, rfl, trivial⟩ ?_
  refine rk_iload_n dR_value_50 rfl ?_
  refine rk_aload_n dR_value_51 rfl ?_
  refine rk_getf fR_32 dR_value_52 k.m rfl ?_
  refine rk_iload_n dR_value_55 rfl ?_
  refine rk_iald dR_value_56 k.de (vp_in_nI (show n < 14 by omega) (by omega)) ?_
  rw [nI_clamp (show n < 2 ^ 31 by omega)]
  refine rk_idiv dR_value_57 (nI_ne0 (by omega) (by omega)) ?_
  rw [pk_div (by omega) (by omega) (by omega)]
  refine rk_aload_n dR_value_58 rfl ?_
  refine rk_getf fR_29 dR_value_59 k.m rfl ?_
  refine rk_iload_n dR_value_62 rfl ?_
  refine rk_iald dR_value_63 k.wi (vp_in_nI (show n < 14 by omega) (by omega)) ?_
  rw [nI_clamp (show n < 2 ^ 31 by omega)]
  refine rk_idiv dR_value_64 (nI_ne0 (by omega) (by omega)) ?_
  rw [pk_div (by have := Nat.div_le_self j (X.N n).c; omega) (by omega) (by omega)]
  refine rk_istore dR_value_65 (Nat.le_of_ble_eq_true rfl) ?_
  refine rk_lv [some (.ref (A 0)), some (.int (nI n)), some (.int (nI j)), some (.int (nI (stS X.N a))), some (.int (-1)), some (.int (nI (j % (X.N n).c))), some (.int (nI (j / (X.N n).c % (X.N n).w))), some (.int (nI (j / (X.N n).c / (X.N n).w))), none, none] ⟨rfl, rfl, rfl, rfl, rfl, rfl, rfl, rfl, trivial⟩ ?_
  refine rk_aload_n dR_value_67 rfl ?_
  refine rk_getf fR_17 dR_value_68 k.m rfl ?_
  refine rk_iload_n dR_value_71 rfl ?_
  refine rk_iald dR_value_72 k.kd (vp_in_nI (show n < 14 by omega) (by omega)) ?_
  rw [nI_clamp (show n < 2 ^ 31 by omega), hk]
  refine rk_iconst (v := 1) dR_value_73 (by decide) ?_
  refine rk_icmp_lt 110 dR_value_74 (by decide) (fun q_74 => (by exact absurd q_74 (by decide))) (fun q_74 => ?_)
  refine rk_aload_n dR_value_77 rfl ?_
  refine rk_getf fR_17 dR_value_78 k.m rfl ?_
  refine rk_iload_n dR_value_81 rfl ?_
  refine rk_iald dR_value_82 k.kd (vp_in_nI (show n < 14 by omega) (by omega)) ?_
  rw [nI_clamp (show n < 2 ^ 31 by omega), hk]
  refine rk_iconst (v := 3) dR_value_83 (by decide) ?_
  refine rk_icmp_gt 110 dR_value_84 (by decide) (fun q_84 => (by exact absurd q_84 (by decide))) (fun q_84 => ?_)
  refine rk_aload_n dR_value_87 rfl ?_
  refine rk_getf fR_35 dR_value_88 k.m rfl ?_
  refine rk_iload_n dR_value_91 rfl ?_
  refine rk_dald dR_value_92 k.sc (vp_in_nI (show stS X.N a < 14 by omega) (by omega)) ?_
  rw [nI_clamp (show stS X.N a < 2 ^ 31 by omega)]
  refine rk_aload_n dR_value_93 rfl ?_
  refine rk_getf fR_39 dR_value_94 k.m rfl ?_
  refine rk_iload_n dR_value_97 rfl ?_
  refine rk_dald dR_value_98 k.nw (vp_in_nI (show n < 14 by omega) (by omega)) ?_
  rw [nI_clamp (show n < 2 ^ 31 by omega)]
  refine rk_dmul dR_value_99 hvv.1 ?_
  refine rk_aload_n dR_value_100 rfl ?_
  refine rk_getf fR_35 dR_value_101 k.m rfl ?_
  refine rk_iload_n dR_value_104 rfl ?_
  refine rk_dald dR_value_105 k.sc (vp_in_nI (show n < 14 by omega) (by omega)) ?_
  rw [nI_clamp (show n < 2 ^ 31 by omega)]
  refine rk_ddiv dR_value_106 hvv.2 ?_
  refine rk_goto 111 dR_value_107 (by decide) ?_
  refine rk_dstore dR_value_111 (Nat.le_of_ble_eq_true rfl) ?_
  refine rk_lv [some (.ref (A 0)), some (.int (nI n)), some (.int (nI j)), some (.int (nI (stS X.N a))), some (.int (-1)), some (.int (nI (j % (X.N n).c))), some (.int (nI (j / (X.N n).c % (X.N n).w))), some (.int (nI (j / (X.N n).c / (X.N n).w))), some (.double (FP.ddiv (FP.dmul (X.N (stS X.N a)).sc (X.N n).ws) (X.N n).sc)), none] ⟨rfl, rfl, rfl, rfl, rfl, rfl, rfl, rfl, rfl, trivial⟩ ?_
  refine rk_aload_n dR_value_113 rfl ?_
  refine rk_getf fR_17 dR_value_114 k.m rfl ?_
  refine rk_iload_n dR_value_117 rfl ?_
  refine rk_iald dR_value_118 k.kd (vp_in_nI (show n < 14 by omega) (by omega)) ?_
  rw [nI_clamp (show n < 2 ^ 31 by omega), hk]
  refine rk_tableIn (off := 89) 208 dR_value_119 (by decide) (by decide) (by decide) (by decide) ?_
  refine rk_aload_n dR_value_208 rfl ?_
  refine rk_aload_n dR_value_209 rfl ?_
  refine rk_aload_n dR_value_210 rfl ?_
  refine rk_iload_n dR_value_211 rfl ?_
  refine rk_iload_n dR_value_212 rfl ?_
  refine rk_iload dR_value_213 rfl ?_
  refine rk_cvV (c_R_denseSum b A X k n (stS X.N a) (j % (X.N n).c) (by omega) (by omega) bsc c1 (by rw [← s1ce]; exact hK.2.1)) cR_218 dR_value_215 rfl lR_denseSum (Nat.le_of_ble_eq_true rfl) (Nat.le_of_ble_eq_true rfl) (Nat.le_of_ble_eq_true rfl) (Nat.le_of_ble_eq_true rfl) k.m ?_
  refine rk_dload dR_value_218 rfl ?_
  refine rk_cvV (c_R_scaled b A X k _ (FP.ddiv (FP.dmul (X.N (stS X.N a)).sc (X.N n).ws) (X.N n).sc) hgood) cR_210 dR_value_220 rfl lR_scaled (Nat.le_of_ble_eq_true rfl) (Nat.le_of_ble_eq_true rfl) (Nat.le_of_ble_eq_true rfl) (Nat.le_of_ble_eq_true rfl) k.m ?_
  refine rk_cvV (c_R_cut b A X _) cR_214 dR_value_223 rfl lR_cut (Nat.le_of_ble_eq_true rfl) (Nat.le_of_ble_eq_true rfl) (Nat.le_of_ble_eq_true rfl) (Nat.le_of_ble_eq_true rfl) k.m ?_
  exact rk_iret rfl dR_value_226 ⟨(Nat.le_of_ble_eq_true rfl), (Nat.le_of_ble_eq_true rfl)⟩ (⟨by unfold vNode; rw [if_neg (show ¬ (X.N n).kd = 0 by omega), if_pos hk]; rw [eR, dnL_eq hw8 f8 bsc, scR_by hgood, show (j % (X.N n).c) = j from Nat.mod_eq_of_lt (by have := hj; unfold aN.ce at this; rw [hK.1.1, hK.1.2] at this; omega)], rfl⟩)
theorem c_R_value1 (b : rk_H) (A : Nat → Nat) (X : rX) (k : rA A) (n j : Nat) (V : vOK X n) (hj : j < (X.N n).ce) (hk : (X.N n).kd = 1) : rk_Con mR_value (4, 71, 0, 0) [.ref (A 0), .int (nI n), .int (nI j)] (rv b A X) (rk_Rv (.int (vR X n j)) (rv b A X)) := by
  obtain ⟨⟨hno, hn, hwf, hS⟩, hw8, h81, h82⟩ := id V
  obtain ⟨⟨bn, ⟨n1, n2, n3⟩, nsc⟩, hkind⟩ := hwf n hn
  have hce := bn.ce
  obtain ⟨y1, x1, c1⟩ := yxc (show j < (X.N n).h * (X.N n).w * (X.N n).c from hj)
  have bc := bn.1.2.2.2.1
  have bw := bn.1.2.2.1
  have bh := bn.1.2.1
  obtain ⟨a, ⟨ho, ha⟩, ht, hK⟩ : ∃ a : Nat, ((X.N n).one = some a ∧ a < n) ∧ (X.N n).two = none ∧ (winG (X.N n) (X.N a) ∧ (X.N n).off + (X.N n).c * ((gOf (X.N n) (X.N a)).k * (gOf (X.N n) (X.N a)).k * (X.N a).c) + (X.N n).c ≤ 512 ∧ d_good (ratA X.N n) = true) := by
    rcases hkind with ⟨h, -⟩ | ⟨a, h1, h2, h⟩ | ⟨a, c, -, -, h⟩
    · omega
    · refine ⟨a, h1, h2, ?_⟩
      rcases h with h | h | h | h | h | h | h <;> first | exact absurd h.1 (by omega) | exact h.2
    · omega
  obtain ⟨s1l, ⟨s1h, s1w, s1c⟩, s1ce, s1sc⟩ := V.s (show a < X.no by omega)
  have e1S : mnt X.st (some a) = nI (stS X.N a) := hS a (by omega)
  have bs := wfN.bd hwf (stS X.N a) (by omega)
  have bsc := bs.ce
  have f8 : ∀ z, z < (X.N (stS X.N a)).ce → in8 (X.ce (128 * stS X.N a + z)) := fun z hz => h81 a ho z (by rw [s1ce]; exact hz)
  have eV := vR_o (j := j) V ho (show a < X.no by omega)
  rw [eV]
  have eR : ratA X.N n = (FP.ddiv (FP.dmul (X.N (stS X.N a)).sc (X.N n).ws) (X.N n).sc) := by
    unfold ratA scO
    rw [ho, if_pos (by omega), ← s1sc]
  have hgood : d_good (FP.ddiv (FP.dmul (X.N (stS X.N a)).sc (X.N n).ws) (X.N n).sc) = true := by rw [← eR]; exact hK.2.2
  have hvv := fp_rat1 bs.2.1 bn.2.2 ⟨nsc, bn.2.1⟩
  have hK4 : rwK X n (stS X.N a) (j / (X.N n).c / (X.N n).w) (j / (X.N n).c % (X.N n).w) := ⟨⟨by omega, by omega⟩, winG_congr s1h s1w hK.1, ⟨bn, bs⟩, ⟨by rw [← s1h]; exact (hwf a (by omega)).1.2.1.1, by rw [← s1w]; exact (hwf a (by omega)).1.2.1.2.1⟩, y1, x1⟩
  refine rk_Con.of [some (.ref (A 0)), some (.int (nI n)), some (.int (nI j)), none, none, none, none, none, none, none] rfl (Nat.le_of_ble_eq_true rfl) (by decide +kernel) ?_
  refine rk_aload_n dR_value_0 rfl ?_
  refine rk_aload_n dR_value_1 rfl ?_
  refine rk_getf fR_20 dR_value_2 k.m rfl ?_
  refine rk_iload_n dR_value_5 rfl ?_
  refine rk_iald dR_value_6 k.on (vp_in_nI (show n < 14 by omega) (by omega)) ?_
  rw [nI_clamp (show n < 2 ^ 31 by omega), ho]
  refine rk_cvV (c_R_standFor b A X k (some a) (fun z hz => by cases hz; omega)) cR_143 dR_value_7 rfl lR_standFor (Nat.le_of_ble_eq_true rfl) (Nat.le_of_ble_eq_true rfl) (Nat.le_of_ble_eq_true rfl) (Nat.le_of_ble_eq_true rfl) k.m ?_
  rw [e1S]
  refine rk_istore_n dR_value_10 (Nat.le_of_ble_eq_true rfl) ?_
  refine rk_lv [some (.ref (A 0)), some (.int (nI n)), some (.int (nI j)), some (.int (nI (stS X.N a))), none, none, none, none, none, none] ⟨rfl, rfl, rfl, rfl, trivial⟩ ?_
  refine rk_aload_n dR_value_11 rfl ?_
  refine rk_aload_n dR_value_12 rfl ?_
  refine rk_getf fR_23 dR_value_13 k.m rfl ?_
  refine rk_iload_n dR_value_16 rfl ?_
  refine rk_iald dR_value_17 k.tw (vp_in_nI (show n < 14 by omega) (by omega)) ?_
  rw [nI_clamp (show n < 2 ^ 31 by omega), ht]
  refine rk_cvV (c_R_standFor b A X k none (fun z hz => by cases hz)) cR_143 dR_value_18 rfl lR_standFor (Nat.le_of_ble_eq_true rfl) (Nat.le_of_ble_eq_true rfl) (Nat.le_of_ble_eq_true rfl) (Nat.le_of_ble_eq_true rfl) k.m ?_
  rw [show mnt X.st none = -1 from rfl]
  refine rk_istore dR_value_21 (Nat.le_of_ble_eq_true rfl) ?_
  refine rk_lv [some (.ref (A 0)), some (.int (nI n)), some (.int (nI j)), some (.int (nI (stS X.N a))), some (.int (-1)), none, none, none, none, none] ⟨rfl, rfl, rfl, rfl, rfl, trivial⟩ ?_
  refine rk_iload_n dR_value_23 rfl ?_
  refine rk_aload_n dR_value_24 rfl ?_
  refine rk_getf fR_32 dR_value_25 k.m rfl ?_
  refine rk_iload_n dR_value_28 rfl ?_
  refine rk_iald dR_value_29 k.de (vp_in_nI (show n < 14 by omega) (by omega)) ?_
  rw [nI_clamp (show n < 2 ^ 31 by omega)]
  refine rk_irem dR_value_30 (nI_ne0 (by omega) (by omega)) ?_
  rw [pk_rem (by omega) (by omega) (by omega)]
  refine rk_istore dR_value_31 (Nat.le_of_ble_eq_true rfl) ?_
  refine rk_lv [some (.ref (A 0)), some (.int (nI n)), some (.int (nI j)), some (.int (nI (stS X.N a))), some (.int (-1)), some (.int (nI (j % (X.N n).c))), none, none, none, none] ⟨rfl, rfl, rfl, rfl, rfl, rfl, trivial⟩ ?_
  refine rk_iload_n dR_value_33 rfl ?_
  refine rk_aload_n dR_value_34 rfl ?_
  refine rk_getf fR_32 dR_value_35 k.m rfl ?_
  refine rk_iload_n dR_value_38 rfl ?_
  refine rk_iald dR_value_39 k.de (vp_in_nI (show n < 14 by omega) (by omega)) ?_
  rw [nI_clamp (show n < 2 ^ 31 by omega)]
  refine rk_idiv dR_value_40 (nI_ne0 (by omega) (by omega)) ?_
  rw [pk_div (by omega) (by omega) (by omega)]
  refine rk_aload_n dR_value_41 rfl ?_
  refine rk_getf fR_29 dR_value_42 k.m rfl ?_
  refine rk_iload_n dR_value_45 rfl ?_
  refine rk_iald dR_value_46 k.wi (vp_in_nI (show n < 14 by omega) (by omega)) ?_
  rw [nI_clamp (show n < 2 ^ 31 by omega)]
  refine rk_irem dR_value_47 (nI_ne0 (by omega) (by omega)) ?_
  rw [pk_rem (by have := Nat.div_le_self j (X.N n).c; omega) (by omega) (by omega)]
  refine rk_istore dR_value_48 (Nat.le_of_ble_eq_true rfl) ?_
  refine rk_lv [some (.ref (A 0)), some (.int (nI n)), some (.int (nI j)), some (.int (nI (stS X.N a))), some (.int (-1)), some (.int (nI (j % (X.N n).c))), some (.int (nI (j / (X.N n).c % (X.N n).w))), none, none, none] ⟨rfl, rfl, rfl, rfl, rfl, rfl, rfl, trivial⟩ ?_
  refine rk_iload_n dR_value_50 rfl ?_
  refine rk_aload_n dR_value_51 rfl ?_
  refine rk_getf fR_32 dR_value_52 k.m rfl ?_
  refine rk_iload_n dR_value_55 rfl ?_
  refine rk_iald dR_value_56 k.de (vp_in_nI (show n < 14 by omega) (by omega)) ?_
  rw [nI_clamp (show n < 2 ^ 31 by omega)]
  refine rk_idiv dR_value_57 (nI_ne0 (by omega) (by omega)) ?_
  rw [pk_div (by omega) (by omega) (by omega)]
  refine rk_aload_n dR_value_58 rfl ?_
  refine rk_getf fR_29 dR_value_59 k.m rfl ?_
  refine rk_iload_n dR_value_62 rfl ?_
  refine rk_iald dR_value_63 k.wi (vp_in_nI (show n < 14 by omega) (by omega)) ?_
  rw [nI_clamp (show n < 2 ^ 31 by omega)]
  refine rk_idiv dR_value_64 (nI_ne0 (by omega) (by omega)) ?_
  rw [pk_div (by have := Nat.div_le_self j (X.N n).c; omega) (by omega) (by omega)]
  refine rk_istore dR_value_65 (Nat.le_of_ble_eq_true rfl) ?_
  refine rk_lv [some (.ref (A 0)), some (.int (nI n)), some (.int (nI j)), some (.int (nI (stS X.N a))), some (.int (-1)), some (.int (nI (j % (X.N n).c))), some (.int (nI (j / (X.N n).c % (X.N n).w))), some (.int (nI (j / (X.N n).c / (X.N n).w))), none, none] ⟨rfl, rfl, rfl, rfl, rfl, rfl, rfl, rfl, trivial⟩ ?_
  refine rk_aload_n dR_value_67 rfl ?_
  refine rk_getf fR_17 dR_value_68 k.m rfl ?_
  refine rk_iload_n dR_value_71 rfl ?_
  refine rk_iald dR_value_72 k.kd (vp_in_nI (show n < 14 by omega) (by omega)) ?_
  rw [nI_clamp (show n < 2 ^ 31 by omega), hk]
  refine rk_iconst (v := 1) dR_value_73 (by decide) ?_
  refine rk_icmp_lt 110 dR_value_74 (by decide) (fun q_74 => (by exact absurd q_74 (by decide))) (fun q_74 => ?_)
  refine rk_aload_n dR_value_77 rfl ?_
  refine rk_getf fR_17 dR_value_78 k.m rfl ?_
  refine rk_iload_n dR_value_81 rfl ?_
  refine rk_iald dR_value_82 k.kd (vp_in_nI (show n < 14 by omega) (by omega)) ?_
  rw [nI_clamp (show n < 2 ^ 31 by omega), hk]
  refine rk_iconst (v := 3) dR_value_83 (by decide) ?_
  refine rk_icmp_gt 110 dR_value_84 (by decide) (fun q_84 => (by exact absurd q_84 (by decide))) (fun q_84 => ?_)
  refine rk_aload_n dR_value_87 rfl ?_
  refine rk_getf fR_35 dR_value_88 k.m rfl ?_
  refine rk_iload_n dR_value_91 rfl ?_
  refine rk_dald dR_value_92 k.sc (vp_in_nI (show stS X.N a < 14 by omega) (by omega)) ?_
  rw [nI_clamp (show stS X.N a < 2 ^ 31 by omega)]
  refine rk_aload_n dR_value_93 rfl ?_
  refine rk_getf fR_39 dR_value_94 k.m rfl ?_
  refine rk_iload_n dR_value_97 rfl ?_
  refine rk_dald dR_value_98 k.nw (vp_in_nI (show n < 14 by omega) (by omega)) ?_
  rw [nI_clamp (show n < 2 ^ 31 by omega)]
  refine rk_dmul dR_value_99 hvv.1 ?_
  refine rk_aload_n dR_value_100 rfl ?_
  refine rk_getf fR_35 dR_value_101 k.m rfl ?_
  refine rk_iload_n dR_value_104 rfl ?_
  refine rk_dald dR_value_105 k.sc (vp_in_nI (show n < 14 by omega) (by omega)) ?_
  rw [nI_clamp (show n < 2 ^ 31 by omega)]
  refine rk_ddiv dR_value_106 hvv.2 ?_
  refine rk_goto 111 dR_value_107 (by decide) ?_
  refine rk_dstore dR_value_111 (Nat.le_of_ble_eq_true rfl) ?_
  refine rk_lv [some (.ref (A 0)), some (.int (nI n)), some (.int (nI j)), some (.int (nI (stS X.N a))), some (.int (-1)), some (.int (nI (j % (X.N n).c))), some (.int (nI (j / (X.N n).c % (X.N n).w))), some (.int (nI (j / (X.N n).c / (X.N n).w))), some (.double (FP.ddiv (FP.dmul (X.N (stS X.N a)).sc (X.N n).ws) (X.N n).sc)), none] ⟨rfl, rfl, rfl, rfl, rfl, rfl, rfl, rfl, rfl, trivial⟩ ?_
  refine rk_aload_n dR_value_113 rfl ?_
  refine rk_getf fR_17 dR_value_114 k.m rfl ?_
  refine rk_iload_n dR_value_117 rfl ?_
  refine rk_iald dR_value_118 k.kd (vp_in_nI (show n < 14 by omega) (by omega)) ?_
  rw [nI_clamp (show n < 2 ^ 31 by omega), hk]
  refine rk_tableIn (off := 66) 185 dR_value_119 (by decide) (by decide) (by decide) (by decide) ?_
  refine rk_aload_n dR_value_185 rfl ?_
  refine rk_aload_n dR_value_186 rfl ?_
  refine rk_aload_n dR_value_187 rfl ?_
  refine rk_iload_n dR_value_188 rfl ?_
  refine rk_iload_n dR_value_189 rfl ?_
  refine rk_iload dR_value_190 rfl ?_
  refine rk_iload dR_value_192 rfl ?_
  refine rk_iload dR_value_194 rfl ?_
  refine rk_cvV (c_R_windowSum1 b A X k n (stS X.N a) (j / (X.N n).c / (X.N n).w) (j / (X.N n).c % (X.N n).w) (j % (X.N n).c) hK4 c1 hk (by rw [← s1c, show (gOf (X.N n) (X.N (stS X.N a))).k = (gOf (X.N n) (X.N a)).k from rfl]; exact hK.2.1)) cR_206 dR_value_196 rfl lR_windowSum (Nat.le_of_ble_eq_true rfl) (Nat.le_of_ble_eq_true rfl) (Nat.le_of_ble_eq_true rfl) (Nat.le_of_ble_eq_true rfl) k.m ?_
  refine rk_dload dR_value_199 rfl ?_
  refine rk_cvV (c_R_scaled b A X k _ (FP.ddiv (FP.dmul (X.N (stS X.N a)).sc (X.N n).ws) (X.N n).sc) hgood) cR_210 dR_value_201 rfl lR_scaled (Nat.le_of_ble_eq_true rfl) (Nat.le_of_ble_eq_true rfl) (Nat.le_of_ble_eq_true rfl) (Nat.le_of_ble_eq_true rfl) k.m ?_
  refine rk_cvV (c_R_cut b A X _) cR_214 dR_value_204 rfl lR_cut (Nat.le_of_ble_eq_true rfl) (Nat.le_of_ble_eq_true rfl) (Nat.le_of_ble_eq_true rfl) (Nat.le_of_ble_eq_true rfl) k.m ?_
  exact rk_iret rfl dR_value_207 ⟨(Nat.le_of_ble_eq_true rfl), (Nat.le_of_ble_eq_true rfl)⟩ (⟨by unfold vNode G_win v_win; rw [if_neg (show ¬ (X.N n).kd = 0 by omega), if_neg (show ¬ (X.N n).kd = 3 by omega), if_neg (show ¬ (X.N n).kd = 4 by omega), if_neg (show ¬ (X.N n).kd = 5 by omega), if_neg (show ¬ (X.N n).kd = 6 by omega), if_neg (show ¬ (X.N n).kd = 9 by omega), if_neg (show ¬ (X.N n).kd = 10 by omega), if_pos hk, eR, w1_eq hK4 hw8 f8, scR_by hgood], rfl⟩)
theorem c_R_value2 (b : rk_H) (A : Nat → Nat) (X : rX) (k : rA A) (n j : Nat) (V : vOK X n) (hj : j < (X.N n).ce) (hk : (X.N n).kd = 2) : rk_Con mR_value (4, 71, 0, 0) [.ref (A 0), .int (nI n), .int (nI j)] (rv b A X) (rk_Rv (.int (vR X n j)) (rv b A X)) := by
  obtain ⟨⟨hno, hn, hwf, hS⟩, hw8, h81, h82⟩ := id V
  obtain ⟨⟨bn, ⟨n1, n2, n3⟩, nsc⟩, hkind⟩ := hwf n hn
  have hce := bn.ce
  obtain ⟨y1, x1, c1⟩ := yxc (show j < (X.N n).h * (X.N n).w * (X.N n).c from hj)
  have bc := bn.1.2.2.2.1
  have bw := bn.1.2.2.1
  have bh := bn.1.2.1
  obtain ⟨a, ⟨ho, ha⟩, ht, hK⟩ : ∃ a : Nat, ((X.N n).one = some a ∧ a < n) ∧ (X.N n).two = none ∧ (winG (X.N n) (X.N a) ∧ (X.N n).c = (X.N a).c ∧ (X.N n).off + (X.N n).c * ((gOf (X.N n) (X.N a)).k * (gOf (X.N n) (X.N a)).k) + (X.N n).c ≤ 512 ∧ d_good (ratA X.N n) = true) := by
    rcases hkind with ⟨h, -⟩ | ⟨a, h1, h2, h⟩ | ⟨a, c, -, -, h⟩
    · omega
    · refine ⟨a, h1, h2, ?_⟩
      rcases h with h | h | h | h | h | h | h <;> first | exact absurd h.1 (by omega) | exact h.2
    · omega
  obtain ⟨s1l, ⟨s1h, s1w, s1c⟩, s1ce, s1sc⟩ := V.s (show a < X.no by omega)
  have e1S : mnt X.st (some a) = nI (stS X.N a) := hS a (by omega)
  have bs := wfN.bd hwf (stS X.N a) (by omega)
  have bsc := bs.ce
  have f8 : ∀ z, z < (X.N (stS X.N a)).ce → in8 (X.ce (128 * stS X.N a + z)) := fun z hz => h81 a ho z (by rw [s1ce]; exact hz)
  have eV := vR_o (j := j) V ho (show a < X.no by omega)
  rw [eV]
  have eR : ratA X.N n = (FP.ddiv (FP.dmul (X.N (stS X.N a)).sc (X.N n).ws) (X.N n).sc) := by
    unfold ratA scO
    rw [ho, if_pos (by omega), ← s1sc]
  have hgood : d_good (FP.ddiv (FP.dmul (X.N (stS X.N a)).sc (X.N n).ws) (X.N n).sc) = true := by rw [← eR]; exact hK.2.2.2
  have hvv := fp_rat1 bs.2.1 bn.2.2 ⟨nsc, bn.2.1⟩
  have hK4 : rwK X n (stS X.N a) (j / (X.N n).c / (X.N n).w) (j / (X.N n).c % (X.N n).w) := ⟨⟨by omega, by omega⟩, winG_congr s1h s1w hK.1, ⟨bn, bs⟩, ⟨by rw [← s1h]; exact (hwf a (by omega)).1.2.1.1, by rw [← s1w]; exact (hwf a (by omega)).1.2.1.2.1⟩, y1, x1⟩
  refine rk_Con.of [some (.ref (A 0)), some (.int (nI n)), some (.int (nI j)), none, none, none, none, none, none, none] rfl (Nat.le_of_ble_eq_true rfl) (by decide +kernel) ?_
  refine rk_aload_n dR_value_0 rfl ?_
  refine rk_aload_n dR_value_1 rfl ?_
  refine rk_getf fR_20 dR_value_2 k.m rfl ?_
  refine rk_iload_n dR_value_5 rfl ?_
  refine rk_iald dR_value_6 k.on (vp_in_nI (show n < 14 by omega) (by omega)) ?_
  rw [nI_clamp (show n < 2 ^ 31 by omega), ho]
  refine rk_cvV (c_R_standFor b A X k (some a) (fun z hz => by cases hz; omega)) cR_143 dR_value_7 rfl lR_standFor (Nat.le_of_ble_eq_true rfl) (Nat.le_of_ble_eq_true rfl) (Nat.le_of_ble_eq_true rfl) (Nat.le_of_ble_eq_true rfl) k.m ?_
  rw [e1S]
  refine rk_istore_n dR_value_10 (Nat.le_of_ble_eq_true rfl) ?_
  refine rk_lv [some (.ref (A 0)), some (.int (nI n)), some (.int (nI j)), some (.int (nI (stS X.N a))), none, none, none, none, none, none] ⟨rfl, rfl, rfl, rfl, trivial⟩ ?_
  refine rk_aload_n dR_value_11 rfl ?_
  refine rk_aload_n dR_value_12 rfl ?_
  refine rk_getf fR_23 dR_value_13 k.m rfl ?_
  refine rk_iload_n dR_value_16 rfl ?_
  refine rk_iald dR_value_17 k.tw (vp_in_nI (show n < 14 by omega) (by omega)) ?_
  rw [nI_clamp (show n < 2 ^ 31 by omega), ht]
  refine rk_cvV (c_R_standFor b A X k none (fun z hz => by cases hz)) cR_143 dR_value_18 rfl lR_standFor (Nat.le_of_ble_eq_true rfl) (Nat.le_of_ble_eq_true rfl) (Nat.le_of_ble_eq_true rfl) (Nat.le_of_ble_eq_true rfl) k.m ?_
  rw [show mnt X.st none = -1 from rfl]
  refine rk_istore dR_value_21 (Nat.le_of_ble_eq_true rfl) ?_
  refine rk_lv [some (.ref (A 0)), some (.int (nI n)), some (.int (nI j)), some (.int (nI (stS X.N a))), some (.int (-1)), none, none, none, none, none] ⟨rfl, rfl, rfl, rfl, rfl, trivial⟩ ?_
  refine rk_iload_n dR_value_23 rfl ?_
  refine rk_aload_n dR_value_24 rfl ?_
  refine rk_getf fR_32 dR_value_25 k.m rfl ?_
  refine rk_iload_n dR_value_28 rfl ?_
  refine rk_iald dR_value_29 k.de (vp_in_nI (show n < 14 by omega) (by omega)) ?_
  rw [nI_clamp (show n < 2 ^ 31 by omega)]
  refine rk_irem dR_value_30 (nI_ne0 (by omega) (by omega)) ?_
  rw [pk_rem (by omega) (by omega) (by omega)]
  refine rk_istore dR_value_31 (Nat.le_of_ble_eq_true rfl) ?_
  refine rk_lv [some (.ref (A 0)), some (.int (nI n)), some (.int (nI j)), some (.int (nI (stS X.N a))), some (.int (-1)), some (.int (nI (j % (X.N n).c))), none, none, none, none] ⟨rfl, rfl, rfl, rfl, rfl, rfl, trivial⟩ ?_
  refine rk_iload_n dR_value_33 rfl ?_
  refine rk_aload_n dR_value_34 rfl ?_
  refine rk_getf fR_32 dR_value_35 k.m rfl ?_
  refine rk_iload_n dR_value_38 rfl ?_
  refine rk_iald dR_value_39 k.de (vp_in_nI (show n < 14 by omega) (by omega)) ?_
  rw [nI_clamp (show n < 2 ^ 31 by omega)]
  refine rk_idiv dR_value_40 (nI_ne0 (by omega) (by omega)) ?_
  rw [pk_div (by omega) (by omega) (by omega)]
  refine rk_aload_n dR_value_41 rfl ?_
  refine rk_getf fR_29 dR_value_42 k.m rfl ?_
  refine rk_iload_n dR_value_45 rfl ?_
  refine rk_iald dR_value_46 k.wi (vp_in_nI (show n < 14 by omega) (by omega)) ?_
  rw [nI_clamp (show n < 2 ^ 31 by omega)]
  refine rk_irem dR_value_47 (nI_ne0 (by omega) (by omega)) ?_
  rw [pk_rem (by have := Nat.div_le_self j (X.N n).c; omega) (by omega) (by omega)]
  refine rk_istore dR_value_48 (Nat.le_of_ble_eq_true rfl) ?_
  refine rk_lv [some (.ref (A 0)), some (.int (nI n)), some (.int (nI j)), some (.int (nI (stS X.N a))), some (.int (-1)), some (.int (nI (j % (X.N n).c))), some (.int (nI (j / (X.N n).c % (X.N n).w))), none, none, none] ⟨rfl, rfl, rfl, rfl, rfl, rfl, rfl, trivial⟩ ?_
  refine rk_iload_n dR_value_50 rfl ?_
  refine rk_aload_n dR_value_51 rfl ?_
  refine rk_getf fR_32 dR_value_52 k.m rfl ?_
  refine rk_iload_n dR_value_55 rfl ?_
  refine rk_iald dR_value_56 k.de (vp_in_nI (show n < 14 by omega) (by omega)) ?_
  rw [nI_clamp (show n < 2 ^ 31 by omega)]
  refine rk_idiv dR_value_57 (nI_ne0 (by omega) (by omega)) ?_
  rw [pk_div (by omega) (by omega) (by omega)]
  refine rk_aload_n dR_value_58 rfl ?_
  refine rk_getf fR_29 dR_value_59 k.m rfl ?_
  refine rk_iload_n dR_value_62 rfl ?_
  refine rk_iald dR_value_63 k.wi (vp_in_nI (show n < 14 by omega) (by omega)) ?_
  rw [nI_clamp (show n < 2 ^ 31 by omega)]
  refine rk_idiv dR_value_64 (nI_ne0 (by omega) (by omega)) ?_
  rw [pk_div (by have := Nat.div_le_self j (X.N n).c; omega) (by omega) (by omega)]
  refine rk_istore dR_value_65 (Nat.le_of_ble_eq_true rfl) ?_
  refine rk_lv [some (.ref (A 0)), some (.int (nI n)), some (.int (nI j)), some (.int (nI (stS X.N a))), some (.int (-1)), some (.int (nI (j % (X.N n).c))), some (.int (nI (j / (X.N n).c % (X.N n).w))), some (.int (nI (j / (X.N n).c / (X.N n).w))), none, none] ⟨rfl, rfl, rfl, rfl, rfl, rfl, rfl, rfl, trivial⟩ ?_
  refine rk_aload_n dR_value_67 rfl ?_
  refine rk_getf fR_17 dR_value_68 k.m rfl ?_
  refine rk_iload_n dR_value_71 rfl ?_
  refine rk_iald dR_value_72 k.kd (vp_in_nI (show n < 14 by omega) (by omega)) ?_
  rw [nI_clamp (show n < 2 ^ 31 by omega), hk]
  refine rk_iconst (v := 1) dR_value_73 (by decide) ?_
  refine rk_icmp_lt 110 dR_value_74 (by decide) (fun q_74 => (by exact absurd q_74 (by decide))) (fun q_74 => ?_)
  refine rk_aload_n dR_value_77 rfl ?_
  refine rk_getf fR_17 dR_value_78 k.m rfl ?_
  refine rk_iload_n dR_value_81 rfl ?_
  refine rk_iald dR_value_82 k.kd (vp_in_nI (show n < 14 by omega) (by omega)) ?_
  rw [nI_clamp (show n < 2 ^ 31 by omega), hk]
  refine rk_iconst (v := 3) dR_value_83 (by decide) ?_
  refine rk_icmp_gt 110 dR_value_84 (by decide) (fun q_84 => (by exact absurd q_84 (by decide))) (fun q_84 => ?_)
  refine rk_aload_n dR_value_87 rfl ?_
  refine rk_getf fR_35 dR_value_88 k.m rfl ?_
  refine rk_iload_n dR_value_91 rfl ?_
  refine rk_dald dR_value_92 k.sc (vp_in_nI (show stS X.N a < 14 by omega) (by omega)) ?_
  rw [nI_clamp (show stS X.N a < 2 ^ 31 by omega)]
  refine rk_aload_n dR_value_93 rfl ?_
  refine rk_getf fR_39 dR_value_94 k.m rfl ?_
  refine rk_iload_n dR_value_97 rfl ?_
  refine rk_dald dR_value_98 k.nw (vp_in_nI (show n < 14 by omega) (by omega)) ?_
  rw [nI_clamp (show n < 2 ^ 31 by omega)]
  refine rk_dmul dR_value_99 hvv.1 ?_
  refine rk_aload_n dR_value_100 rfl ?_
  refine rk_getf fR_35 dR_value_101 k.m rfl ?_
  refine rk_iload_n dR_value_104 rfl ?_
  refine rk_dald dR_value_105 k.sc (vp_in_nI (show n < 14 by omega) (by omega)) ?_
  rw [nI_clamp (show n < 2 ^ 31 by omega)]
  refine rk_ddiv dR_value_106 hvv.2 ?_
  refine rk_goto 111 dR_value_107 (by decide) ?_
  refine rk_dstore dR_value_111 (Nat.le_of_ble_eq_true rfl) ?_
  refine rk_lv [some (.ref (A 0)), some (.int (nI n)), some (.int (nI j)), some (.int (nI (stS X.N a))), some (.int (-1)), some (.int (nI (j % (X.N n).c))), some (.int (nI (j / (X.N n).c % (X.N n).w))), some (.int (nI (j / (X.N n).c / (X.N n).w))), some (.double (FP.ddiv (FP.dmul (X.N (stS X.N a)).sc (X.N n).ws) (X.N n).sc)), none] ⟨rfl, rfl, rfl, rfl, rfl, rfl, rfl, rfl, rfl, trivial⟩ ?_
  refine rk_aload_n dR_value_113 rfl ?_
  refine rk_getf fR_17 dR_value_114 k.m rfl ?_
  refine rk_iload_n dR_value_117 rfl ?_
  refine rk_iald dR_value_118 k.kd (vp_in_nI (show n < 14 by omega) (by omega)) ?_
  rw [nI_clamp (show n < 2 ^ 31 by omega), hk]
  refine rk_tableIn (off := 66) 185 dR_value_119 (by decide) (by decide) (by decide) (by decide) ?_
  refine rk_aload_n dR_value_185 rfl ?_
  refine rk_aload_n dR_value_186 rfl ?_
  refine rk_aload_n dR_value_187 rfl ?_
  refine rk_iload_n dR_value_188 rfl ?_
  refine rk_iload_n dR_value_189 rfl ?_
  refine rk_iload dR_value_190 rfl ?_
  refine rk_iload dR_value_192 rfl ?_
  refine rk_iload dR_value_194 rfl ?_
  refine rk_cvV (c_R_windowSum2 b A X k n (stS X.N a) (j / (X.N n).c / (X.N n).w) (j / (X.N n).c % (X.N n).w) (j % (X.N n).c) hK4 c1 hk (by rw [← s1c]; exact hK.2.1) (by rw [show (gOf (X.N n) (X.N (stS X.N a))).k = (gOf (X.N n) (X.N a)).k from rfl]; exact hK.2.2.1)) cR_206 dR_value_196 rfl lR_windowSum (Nat.le_of_ble_eq_true rfl) (Nat.le_of_ble_eq_true rfl) (Nat.le_of_ble_eq_true rfl) (Nat.le_of_ble_eq_true rfl) k.m ?_
  refine rk_dload dR_value_199 rfl ?_
  refine rk_cvV (c_R_scaled b A X k _ (FP.ddiv (FP.dmul (X.N (stS X.N a)).sc (X.N n).ws) (X.N n).sc) hgood) cR_210 dR_value_201 rfl lR_scaled (Nat.le_of_ble_eq_true rfl) (Nat.le_of_ble_eq_true rfl) (Nat.le_of_ble_eq_true rfl) (Nat.le_of_ble_eq_true rfl) k.m ?_
  refine rk_cvV (c_R_cut b A X _) cR_214 dR_value_204 rfl lR_cut (Nat.le_of_ble_eq_true rfl) (Nat.le_of_ble_eq_true rfl) (Nat.le_of_ble_eq_true rfl) (Nat.le_of_ble_eq_true rfl) k.m ?_
  exact rk_iret rfl dR_value_207 ⟨(Nat.le_of_ble_eq_true rfl), (Nat.le_of_ble_eq_true rfl)⟩ (⟨by unfold vNode G_win v_win; rw [if_neg (show ¬ (X.N n).kd = 0 by omega), if_neg (show ¬ (X.N n).kd = 3 by omega), if_neg (show ¬ (X.N n).kd = 4 by omega), if_neg (show ¬ (X.N n).kd = 5 by omega), if_neg (show ¬ (X.N n).kd = 6 by omega), if_neg (show ¬ (X.N n).kd = 9 by omega), if_neg (show ¬ (X.N n).kd = 10 by omega), if_neg (show ¬ (X.N n).kd = 1 by omega), if_pos hk, eR, w2_eq hK4 (by rw [← s1c, ← hK.2.1]; exact c1) hw8 f8, scR_by hgood], rfl⟩)
theorem c_R_value7 (b : rk_H) (A : Nat → Nat) (X : rX) (k : rA A) (n j : Nat) (V : vOK X n) (hj : j < (X.N n).ce) (hk : (X.N n).kd = 7) : rk_Con mR_value (4, 71, 0, 0) [.ref (A 0), .int (nI n), .int (nI j)] (rv b A X) (rk_Rv (.int (vR X n j)) (rv b A X)) := by
  obtain ⟨⟨hno, hn, hwf, hS⟩, hw8, h81, h82⟩ := id V
  obtain ⟨⟨bn, ⟨n1, n2, n3⟩, nsc⟩, hkind⟩ := hwf n hn
  have hce := bn.ce
  obtain ⟨y1, x1, c1⟩ := yxc (show j < (X.N n).h * (X.N n).w * (X.N n).c from hj)
  have bc := bn.1.2.2.2.1
  have bw := bn.1.2.2.1
  have bh := bn.1.2.1
  obtain ⟨a, ⟨ho, ha⟩, ht, hK⟩ : ∃ a : Nat, ((X.N n).one = some a ∧ a < n) ∧ (X.N n).two = none ∧ (winG (X.N n) (X.N a) ∧ (X.N n).c = (X.N a).c ∧ (X.N n).sc = (X.N a).sc) := by
    rcases hkind with ⟨h, -⟩ | ⟨a, h1, h2, h⟩ | ⟨a, c, -, -, h⟩
    · omega
    · refine ⟨a, h1, h2, ?_⟩
      rcases h with h | h | h | h | h | h | h <;> first | exact absurd h.1 (by omega) | exact h.2
    · omega
  obtain ⟨s1l, ⟨s1h, s1w, s1c⟩, s1ce, s1sc⟩ := V.s (show a < X.no by omega)
  have e1S : mnt X.st (some a) = nI (stS X.N a) := hS a (by omega)
  have bs := wfN.bd hwf (stS X.N a) (by omega)
  have bsc := bs.ce
  have f8 : ∀ z, z < (X.N (stS X.N a)).ce → in8 (X.ce (128 * stS X.N a + z)) := fun z hz => h81 a ho z (by rw [s1ce]; exact hz)
  have eV := vR_o (j := j) V ho (show a < X.no by omega)
  rw [eV]
  have hK4 : rwK X n (stS X.N a) (j / (X.N n).c / (X.N n).w) (j / (X.N n).c % (X.N n).w) := ⟨⟨by omega, by omega⟩, winG_congr s1h s1w hK.1, ⟨bn, bs⟩, ⟨by rw [← s1h]; exact (hwf a (by omega)).1.2.1.1, by rw [← s1w]; exact (hwf a (by omega)).1.2.1.2.1⟩, y1, x1⟩
  have hpo := po_eq hK4 (by rw [← s1c, ← hK.2.1]; exact c1) f8 _ (rfl : _ = itr (jst (gOf (X.N n) (X.N (stS X.N a))) (j / (X.N n).c / (X.N n).w) (j / (X.N n).c % (X.N n).w) (poS X (stS X.N a) (j % (X.N n).c))) ((gOf (X.N n) (X.N (stS X.N a))).k * (gOf (X.N n) (X.N (stS X.N a))).k) 0 ((-129, 0, 0) : Int32 × Int32 × Nat))
  refine rk_Con.of [some (.ref (A 0)), some (.int (nI n)), some (.int (nI j)), none, none, none, none, none, none, none] rfl (Nat.le_of_ble_eq_true rfl) (by decide +kernel) ?_
  refine rk_aload_n dR_value_0 rfl ?_
  refine rk_aload_n dR_value_1 rfl ?_
  refine rk_getf fR_20 dR_value_2 k.m rfl ?_
  refine rk_iload_n dR_value_5 rfl ?_
  refine rk_iald dR_value_6 k.on (vp_in_nI (show n < 14 by omega) (by omega)) ?_
  rw [nI_clamp (show n < 2 ^ 31 by omega), ho]
  refine rk_cvV (c_R_standFor b A X k (some a) (fun z hz => by cases hz; omega)) cR_143 dR_value_7 rfl lR_standFor (Nat.le_of_ble_eq_true rfl) (Nat.le_of_ble_eq_true rfl) (Nat.le_of_ble_eq_true rfl) (Nat.le_of_ble_eq_true rfl) k.m ?_
  rw [e1S]
  refine rk_istore_n dR_value_10 (Nat.le_of_ble_eq_true rfl) ?_
  refine rk_lv [some (.ref (A 0)), some (.int (nI n)), some (.int (nI j)), some (.int (nI (stS X.N a))), none, none, none, none, none, none] ⟨rfl, rfl, rfl, rfl, trivial⟩ ?_
  refine rk_aload_n dR_value_11 rfl ?_
  refine rk_aload_n dR_value_12 rfl ?_
  refine rk_getf fR_23 dR_value_13 k.m rfl ?_
  refine rk_iload_n dR_value_16 rfl ?_
  refine rk_iald dR_value_17 k.tw (vp_in_nI (show n < 14 by omega) (by omega)) ?_
  rw [nI_clamp (show n < 2 ^ 31 by omega), ht]
  refine rk_cvV (c_R_standFor b A X k none (fun z hz => by cases hz)) cR_143 dR_value_18 rfl lR_standFor (Nat.le_of_ble_eq_true rfl) (Nat.le_of_ble_eq_true rfl) (Nat.le_of_ble_eq_true rfl) (Nat.le_of_ble_eq_true rfl) k.m ?_
  rw [show mnt X.st none = -1 from rfl]
  refine rk_istore dR_value_21 (Nat.le_of_ble_eq_true rfl) ?_
  refine rk_lv [some (.ref (A 0)), some (.int (nI n)), some (.int (nI j)), some (.int (nI (stS X.N a))), some (.int (-1)), none, none, none, none, none] ⟨rfl, rfl, rfl, rfl, rfl, trivial⟩ ?_
  refine rk_iload_n dR_value_23 rfl ?_
  refine rk_aload_n dR_value_24 rfl ?_
  refine rk_getf fR_32 dR_value_25 k.m rfl ?_
  refine rk_iload_n dR_value_28 rfl ?_
  refine rk_iald dR_value_29 k.de (vp_in_nI (show n < 14 by omega) (by omega)) ?_
  rw [nI_clamp (show n < 2 ^ 31 by omega)]
  refine rk_irem dR_value_30 (nI_ne0 (by omega) (by omega)) ?_
  rw [pk_rem (by omega) (by omega) (by omega)]
  refine rk_istore dR_value_31 (Nat.le_of_ble_eq_true rfl) ?_
  refine rk_lv [some (.ref (A 0)), some (.int (nI n)), some (.int (nI j)), some (.int (nI (stS X.N a))), some (.int (-1)), some (.int (nI (j % (X.N n).c))), none, none, none, none] ⟨rfl, rfl, rfl, rfl, rfl, rfl, trivial⟩ ?_
  refine rk_iload_n dR_value_33 rfl ?_
  refine rk_aload_n dR_value_34 rfl ?_
  refine rk_getf fR_32 dR_value_35 k.m rfl ?_
  refine rk_iload_n dR_value_38 rfl ?_
  refine rk_iald dR_value_39 k.de (vp_in_nI (show n < 14 by omega) (by omega)) ?_
  rw [nI_clamp (show n < 2 ^ 31 by omega)]
  refine rk_idiv dR_value_40 (nI_ne0 (by omega) (by omega)) ?_
  rw [pk_div (by omega) (by omega) (by omega)]
  refine rk_aload_n dR_value_41 rfl ?_
  refine rk_getf fR_29 dR_value_42 k.m rfl ?_
  refine rk_iload_n dR_value_45 rfl ?_
  refine rk_iald dR_value_46 k.wi (vp_in_nI (show n < 14 by omega) (by omega)) ?_
  rw [nI_clamp (show n < 2 ^ 31 by omega)]
  refine rk_irem dR_value_47 (nI_ne0 (by omega) (by omega)) ?_
  rw [pk_rem (by have := Nat.div_le_self j (X.N n).c; omega) (by omega) (by omega)]
  refine rk_istore dR_value_48 (Nat.le_of_ble_eq_true rfl) ?_
  refine rk_lv [some (.ref (A 0)), some (.int (nI n)), some (.int (nI j)), some (.int (nI (stS X.N a))), some (.int (-1)), some (.int (nI (j % (X.N n).c))), some (.int (nI (j / (X.N n).c % (X.N n).w))), none, none, none] ⟨rfl, rfl, rfl, rfl, rfl, rfl, rfl, trivial⟩ ?_
  refine rk_iload_n dR_value_50 rfl ?_
  refine rk_aload_n dR_value_51 rfl ?_
  refine rk_getf fR_32 dR_value_52 k.m rfl ?_
  refine rk_iload_n dR_value_55 rfl ?_
  refine rk_iald dR_value_56 k.de (vp_in_nI (show n < 14 by omega) (by omega)) ?_
  rw [nI_clamp (show n < 2 ^ 31 by omega)]
  refine rk_idiv dR_value_57 (nI_ne0 (by omega) (by omega)) ?_
  rw [pk_div (by omega) (by omega) (by omega)]
  refine rk_aload_n dR_value_58 rfl ?_
  refine rk_getf fR_29 dR_value_59 k.m rfl ?_
  refine rk_iload_n dR_value_62 rfl ?_
  refine rk_iald dR_value_63 k.wi (vp_in_nI (show n < 14 by omega) (by omega)) ?_
  rw [nI_clamp (show n < 2 ^ 31 by omega)]
  refine rk_idiv dR_value_64 (nI_ne0 (by omega) (by omega)) ?_
  rw [pk_div (by have := Nat.div_le_self j (X.N n).c; omega) (by omega) (by omega)]
  refine rk_istore dR_value_65 (Nat.le_of_ble_eq_true rfl) ?_
  refine rk_lv [some (.ref (A 0)), some (.int (nI n)), some (.int (nI j)), some (.int (nI (stS X.N a))), some (.int (-1)), some (.int (nI (j % (X.N n).c))), some (.int (nI (j / (X.N n).c % (X.N n).w))), some (.int (nI (j / (X.N n).c / (X.N n).w))), none, none] ⟨rfl, rfl, rfl, rfl, rfl, rfl, rfl, rfl, trivial⟩ ?_
  refine rk_aload_n dR_value_67 rfl ?_
  refine rk_getf fR_17 dR_value_68 k.m rfl ?_
  refine rk_iload_n dR_value_71 rfl ?_
  refine rk_iald dR_value_72 k.kd (vp_in_nI (show n < 14 by omega) (by omega)) ?_
  rw [nI_clamp (show n < 2 ^ 31 by omega), hk]
  refine rk_iconst (v := 1) dR_value_73 (by decide) ?_
  refine rk_icmp_lt 110 dR_value_74 (by decide) (fun q_74 => (by exact absurd q_74 (by decide))) (fun q_74 => ?_)
  refine rk_aload_n dR_value_77 rfl ?_
  refine rk_getf fR_17 dR_value_78 k.m rfl ?_
  refine rk_iload_n dR_value_81 rfl ?_
  refine rk_iald dR_value_82 k.kd (vp_in_nI (show n < 14 by omega) (by omega)) ?_
  rw [nI_clamp (show n < 2 ^ 31 by omega), hk]
  refine rk_iconst (v := 3) dR_value_83 (by decide) ?_
  refine rk_icmp_gt 110 dR_value_84 (by decide) (fun q_84 => ?_) (fun q_84 => (by exact absurd (by decide) q_84))
  refine rk_dconst0 dR_value_110 ?_
  refine rk_dstore dR_value_111 (Nat.le_of_ble_eq_true rfl) ?_
  refine rk_lv [some (.ref (A 0)), some (.int (nI n)), some (.int (nI j)), some (.int (nI (stS X.N a))), some (.int (-1)), some (.int (nI (j % (X.N n).c))), some (.int (nI (j / (X.N n).c % (X.N n).w))), some (.int (nI (j / (X.N n).c / (X.N n).w))), some (.double FP.dconst0), none] ⟨rfl, rfl, rfl, rfl, rfl, rfl, rfl, rfl, rfl, trivial⟩ ?_
  refine rk_aload_n dR_value_113 rfl ?_
  refine rk_getf fR_17 dR_value_114 k.m rfl ?_
  refine rk_iload_n dR_value_117 rfl ?_
  refine rk_iald dR_value_118 k.kd (vp_in_nI (show n < 14 by omega) (by omega)) ?_
  rw [nI_clamp (show n < 2 ^ 31 by omega), hk]
  refine rk_tableIn (off := 203) 322 dR_value_119 (by decide) (by decide) (by decide) (by decide) ?_
  refine rk_aload_n dR_value_322 rfl ?_
  refine rk_iload_n dR_value_323 rfl ?_
  refine rk_iload_n dR_value_324 rfl ?_
  refine rk_iload dR_value_325 rfl ?_
  refine rk_iload dR_value_327 rfl ?_
  refine rk_iload dR_value_329 rfl ?_
  refine rk_cvG (c_R_pooled b A X k n (stS X.N a) (j / (X.N n).c / (X.N n).w) (j / (X.N n).c % (X.N n).w) (j % (X.N n).c) hK4 (by rw [← s1c, ← hK.2.1]; exact c1) (by omega) hpo.1) cR_226 dR_value_331 rfl lR_pooled (Nat.le_of_ble_eq_true rfl) (Nat.le_of_ble_eq_true rfl) (Nat.le_of_ble_eq_true rfl) (Nat.le_of_ble_eq_true rfl) k.m ?_
  rintro r_331 h_331 ⟨rfl, rfl⟩
  refine rk_nxv ?_
  exact rk_iret rfl dR_value_334 ⟨(Nat.le_of_ble_eq_true rfl), (Nat.le_of_ble_eq_true rfl)⟩ (⟨by unfold vNode G_win v_win; rw [if_neg (show ¬ (X.N n).kd = 0 by omega), if_neg (show ¬ (X.N n).kd = 3 by omega), if_neg (show ¬ (X.N n).kd = 4 by omega), if_neg (show ¬ (X.N n).kd = 5 by omega), if_neg (show ¬ (X.N n).kd = 6 by omega), if_neg (show ¬ (X.N n).kd = 9 by omega), if_neg (show ¬ (X.N n).kd = 10 by omega), if_neg (show ¬ (X.N n).kd = 1 by omega), if_neg (show ¬ (X.N n).kd = 2 by omega), if_pos hk, if_pos hk, hpo.2.1], rfl⟩)
theorem c_R_value8 (b : rk_H) (A : Nat → Nat) (X : rX) (k : rA A) (n j : Nat) (V : vOK X n) (hj : j < (X.N n).ce) (hk : (X.N n).kd = 8) : rk_Con mR_value (4, 71, 0, 0) [.ref (A 0), .int (nI n), .int (nI j)] (rv b A X) (rk_Rv (.int (vR X n j)) (rv b A X)) := by
  obtain ⟨⟨hno, hn, hwf, hS⟩, hw8, h81, h82⟩ := id V
  obtain ⟨⟨bn, ⟨n1, n2, n3⟩, nsc⟩, hkind⟩ := hwf n hn
  have hce := bn.ce
  obtain ⟨y1, x1, c1⟩ := yxc (show j < (X.N n).h * (X.N n).w * (X.N n).c from hj)
  have bc := bn.1.2.2.2.1
  have bw := bn.1.2.2.1
  have bh := bn.1.2.1
  obtain ⟨a, ⟨ho, ha⟩, ht, hK⟩ : ∃ a : Nat, ((X.N n).one = some a ∧ a < n) ∧ (X.N n).two = none ∧ (winG (X.N n) (X.N a) ∧ (X.N n).c = (X.N a).c ∧ (X.N n).sc = (X.N a).sc) := by
    rcases hkind with ⟨h, -⟩ | ⟨a, h1, h2, h⟩ | ⟨a, c, -, -, h⟩
    · omega
    · refine ⟨a, h1, h2, ?_⟩
      rcases h with h | h | h | h | h | h | h <;> first | exact absurd h.1 (by omega) | exact h.2
    · omega
  obtain ⟨s1l, ⟨s1h, s1w, s1c⟩, s1ce, s1sc⟩ := V.s (show a < X.no by omega)
  have e1S : mnt X.st (some a) = nI (stS X.N a) := hS a (by omega)
  have bs := wfN.bd hwf (stS X.N a) (by omega)
  have bsc := bs.ce
  have f8 : ∀ z, z < (X.N (stS X.N a)).ce → in8 (X.ce (128 * stS X.N a + z)) := fun z hz => h81 a ho z (by rw [s1ce]; exact hz)
  have eV := vR_o (j := j) V ho (show a < X.no by omega)
  rw [eV]
  have hK4 : rwK X n (stS X.N a) (j / (X.N n).c / (X.N n).w) (j / (X.N n).c % (X.N n).w) := ⟨⟨by omega, by omega⟩, winG_congr s1h s1w hK.1, ⟨bn, bs⟩, ⟨by rw [← s1h]; exact (hwf a (by omega)).1.2.1.1, by rw [← s1w]; exact (hwf a (by omega)).1.2.1.2.1⟩, y1, x1⟩
  have hpo := po_eq hK4 (by rw [← s1c, ← hK.2.1]; exact c1) f8 _ (rfl : _ = itr (jst (gOf (X.N n) (X.N (stS X.N a))) (j / (X.N n).c / (X.N n).w) (j / (X.N n).c % (X.N n).w) (poS X (stS X.N a) (j % (X.N n).c))) ((gOf (X.N n) (X.N (stS X.N a))).k * (gOf (X.N n) (X.N (stS X.N a))).k) 0 ((-129, 0, 0) : Int32 × Int32 × Nat))
  refine rk_Con.of [some (.ref (A 0)), some (.int (nI n)), some (.int (nI j)), none, none, none, none, none, none, none] rfl (Nat.le_of_ble_eq_true rfl) (by decide +kernel) ?_
  refine rk_aload_n dR_value_0 rfl ?_
  refine rk_aload_n dR_value_1 rfl ?_
  refine rk_getf fR_20 dR_value_2 k.m rfl ?_
  refine rk_iload_n dR_value_5 rfl ?_
  refine rk_iald dR_value_6 k.on (vp_in_nI (show n < 14 by omega) (by omega)) ?_
  rw [nI_clamp (show n < 2 ^ 31 by omega), ho]
  refine rk_cvV (c_R_standFor b A X k (some a) (fun z hz => by cases hz; omega)) cR_143 dR_value_7 rfl lR_standFor (Nat.le_of_ble_eq_true rfl) (Nat.le_of_ble_eq_true rfl) (Nat.le_of_ble_eq_true rfl) (Nat.le_of_ble_eq_true rfl) k.m ?_
  rw [e1S]
  refine rk_istore_n dR_value_10 (Nat.le_of_ble_eq_true rfl) ?_
  refine rk_lv [some (.ref (A 0)), some (.int (nI n)), some (.int (nI j)), some (.int (nI (stS X.N a))), none, none, none, none, none, none] ⟨rfl, rfl, rfl, rfl, trivial⟩ ?_
  refine rk_aload_n dR_value_11 rfl ?_
  refine rk_aload_n dR_value_12 rfl ?_
  refine rk_getf fR_23 dR_value_13 k.m rfl ?_
  refine rk_iload_n dR_value_16 rfl ?_
  refine rk_iald dR_value_17 k.tw (vp_in_nI (show n < 14 by omega) (by omega)) ?_
  rw [nI_clamp (show n < 2 ^ 31 by omega), ht]
  refine rk_cvV (c_R_standFor b A X k none (fun z hz => by cases hz)) cR_143 dR_value_18 rfl lR_standFor (Nat.le_of_ble_eq_true rfl) (Nat.le_of_ble_eq_true rfl) (Nat.le_of_ble_eq_true rfl) (Nat.le_of_ble_eq_true rfl) k.m ?_
  rw [show mnt X.st none = -1 from rfl]
  refine rk_istore dR_value_21 (Nat.le_of_ble_eq_true rfl) ?_
  refine rk_lv [some (.ref (A 0)), some (.int (nI n)), some (.int (nI j)), some (.int (nI (stS X.N a))), some (.int (-1)), none, none, none, none, none] ⟨rfl, rfl, rfl, rfl, rfl, trivial⟩ ?_
  refine rk_iload_n dR_value_23 rfl ?_
  refine rk_aload_n dR_value_24 rfl ?_
  refine rk_getf fR_32 dR_value_25 k.m rfl ?_
  refine rk_iload_n dR_value_28 rfl ?_
  refine rk_iald dR_value_29 k.de (vp_in_nI (show n < 14 by omega) (by omega)) ?_
  rw [nI_clamp (show n < 2 ^ 31 by omega)]
  refine rk_irem dR_value_30 (nI_ne0 (by omega) (by omega)) ?_
  rw [pk_rem (by omega) (by omega) (by omega)]
  refine rk_istore dR_value_31 (Nat.le_of_ble_eq_true rfl) ?_
  refine rk_lv [some (.ref (A 0)), some (.int (nI n)), some (.int (nI j)), some (.int (nI (stS X.N a))), some (.int (-1)), some (.int (nI (j % (X.N n).c))), none, none, none, none] ⟨rfl, rfl, rfl, rfl, rfl, rfl, trivial⟩ ?_
  refine rk_iload_n dR_value_33 rfl ?_
  refine rk_aload_n dR_value_34 rfl ?_
  refine rk_getf fR_32 dR_value_35 k.m rfl ?_
  refine rk_iload_n dR_value_38 rfl ?_
  refine rk_iald dR_value_39 k.de (vp_in_nI (show n < 14 by omega) (by omega)) ?_
  rw [nI_clamp (show n < 2 ^ 31 by omega)]
  refine rk_idiv dR_value_40 (nI_ne0 (by omega) (by omega)) ?_
  rw [pk_div (by omega) (by omega) (by omega)]
  refine rk_aload_n dR_value_41 rfl ?_
  refine rk_getf fR_29 dR_value_42 k.m rfl ?_
  refine rk_iload_n dR_value_45 rfl ?_
  refine rk_iald dR_value_46 k.wi (vp_in_nI (show n < 14 by omega) (by omega)) ?_
  rw [nI_clamp (show n < 2 ^ 31 by omega)]
  refine rk_irem dR_value_47 (nI_ne0 (by omega) (by omega)) ?_
  rw [pk_rem (by have := Nat.div_le_self j (X.N n).c; omega) (by omega) (by omega)]
  refine rk_istore dR_value_48 (Nat.le_of_ble_eq_true rfl) ?_
  refine rk_lv [some (.ref (A 0)), some (.int (nI n)), some (.int (nI j)), some (.int (nI (stS X.N a))), some (.int (-1)), some (.int (nI (j % (X.N n).c))), some (.int (nI (j / (X.N n).c % (X.N n).w))), none, none, none] ⟨rfl, rfl, rfl, rfl, rfl, rfl, rfl, trivial⟩ ?_
  refine rk_iload_n dR_value_50 rfl ?_
  refine rk_aload_n dR_value_51 rfl ?_
  refine rk_getf fR_32 dR_value_52 k.m rfl ?_
  refine rk_iload_n dR_value_55 rfl ?_
  refine rk_iald dR_value_56 k.de (vp_in_nI (show n < 14 by omega) (by omega)) ?_
  rw [nI_clamp (show n < 2 ^ 31 by omega)]
  refine rk_idiv dR_value_57 (nI_ne0 (by omega) (by omega)) ?_
  rw [pk_div (by omega) (by omega) (by omega)]
  refine rk_aload_n dR_value_58 rfl ?_
  refine rk_getf fR_29 dR_value_59 k.m rfl ?_
  refine rk_iload_n dR_value_62 rfl ?_
  refine rk_iald dR_value_63 k.wi (vp_in_nI (show n < 14 by omega) (by omega)) ?_
  rw [nI_clamp (show n < 2 ^ 31 by omega)]
  refine rk_idiv dR_value_64 (nI_ne0 (by omega) (by omega)) ?_
  rw [pk_div (by have := Nat.div_le_self j (X.N n).c; omega) (by omega) (by omega)]
  refine rk_istore dR_value_65 (Nat.le_of_ble_eq_true rfl) ?_
  refine rk_lv [some (.ref (A 0)), some (.int (nI n)), some (.int (nI j)), some (.int (nI (stS X.N a))), some (.int (-1)), some (.int (nI (j % (X.N n).c))), some (.int (nI (j / (X.N n).c % (X.N n).w))), some (.int (nI (j / (X.N n).c / (X.N n).w))), none, none] ⟨rfl, rfl, rfl, rfl, rfl, rfl, rfl, rfl, trivial⟩ ?_
  refine rk_aload_n dR_value_67 rfl ?_
  refine rk_getf fR_17 dR_value_68 k.m rfl ?_
  refine rk_iload_n dR_value_71 rfl ?_
  refine rk_iald dR_value_72 k.kd (vp_in_nI (show n < 14 by omega) (by omega)) ?_
  rw [nI_clamp (show n < 2 ^ 31 by omega), hk]
  refine rk_iconst (v := 1) dR_value_73 (by decide) ?_
  refine rk_icmp_lt 110 dR_value_74 (by decide) (fun q_74 => (by exact absurd q_74 (by decide))) (fun q_74 => ?_)
  refine rk_aload_n dR_value_77 rfl ?_
  refine rk_getf fR_17 dR_value_78 k.m rfl ?_
  refine rk_iload_n dR_value_81 rfl ?_
  refine rk_iald dR_value_82 k.kd (vp_in_nI (show n < 14 by omega) (by omega)) ?_
  rw [nI_clamp (show n < 2 ^ 31 by omega), hk]
  refine rk_iconst (v := 3) dR_value_83 (by decide) ?_
  refine rk_icmp_gt 110 dR_value_84 (by decide) (fun q_84 => ?_) (fun q_84 => (by exact absurd (by decide) q_84))
  refine rk_dconst0 dR_value_110 ?_
  refine rk_dstore dR_value_111 (Nat.le_of_ble_eq_true rfl) ?_
  refine rk_lv [some (.ref (A 0)), some (.int (nI n)), some (.int (nI j)), some (.int (nI (stS X.N a))), some (.int (-1)), some (.int (nI (j % (X.N n).c))), some (.int (nI (j / (X.N n).c % (X.N n).w))), some (.int (nI (j / (X.N n).c / (X.N n).w))), some (.double FP.dconst0), none] ⟨rfl, rfl, rfl, rfl, rfl, rfl, rfl, rfl, rfl, trivial⟩ ?_
  refine rk_aload_n dR_value_113 rfl ?_
  refine rk_getf fR_17 dR_value_114 k.m rfl ?_
  refine rk_iload_n dR_value_117 rfl ?_
  refine rk_iald dR_value_118 k.kd (vp_in_nI (show n < 14 by omega) (by omega)) ?_
  rw [nI_clamp (show n < 2 ^ 31 by omega), hk]
  refine rk_tableIn (off := 203) 322 dR_value_119 (by decide) (by decide) (by decide) (by decide) ?_
  refine rk_aload_n dR_value_322 rfl ?_
  refine rk_iload_n dR_value_323 rfl ?_
  refine rk_iload_n dR_value_324 rfl ?_
  refine rk_iload dR_value_325 rfl ?_
  refine rk_iload dR_value_327 rfl ?_
  refine rk_iload dR_value_329 rfl ?_
  refine rk_cvG (c_R_pooled b A X k n (stS X.N a) (j / (X.N n).c / (X.N n).w) (j / (X.N n).c % (X.N n).w) (j % (X.N n).c) hK4 (by rw [← s1c, ← hK.2.1]; exact c1) (by omega) hpo.1) cR_226 dR_value_331 rfl lR_pooled (Nat.le_of_ble_eq_true rfl) (Nat.le_of_ble_eq_true rfl) (Nat.le_of_ble_eq_true rfl) (Nat.le_of_ble_eq_true rfl) k.m ?_
  rintro r_331 h_331 ⟨rfl, rfl⟩
  refine rk_nxv ?_
  exact rk_iret rfl dR_value_334 ⟨(Nat.le_of_ble_eq_true rfl), (Nat.le_of_ble_eq_true rfl)⟩ (⟨by unfold vNode G_win v_win; rw [if_neg (show ¬ (X.N n).kd = 0 by omega), if_neg (show ¬ (X.N n).kd = 3 by omega), if_neg (show ¬ (X.N n).kd = 4 by omega), if_neg (show ¬ (X.N n).kd = 5 by omega), if_neg (show ¬ (X.N n).kd = 6 by omega), if_neg (show ¬ (X.N n).kd = 9 by omega), if_neg (show ¬ (X.N n).kd = 10 by omega), if_neg (show ¬ (X.N n).kd = 1 by omega), if_neg (show ¬ (X.N n).kd = 2 by omega), if_neg (show ¬ (X.N n).kd = 7 by omega), if_neg (show ¬ (X.N n).kd = 7 by omega), hv_avg (by rw [nI_toInt (by omega)]; omega) hpo.2.2.2, hpo.2.2.1], rfl⟩)
theorem c_R_value5 (b : rk_H) (A : Nat → Nat) (X : rX) (k : rA A) (n j : Nat) (V : vOK X n) (hj : j < (X.N n).ce) (hk : (X.N n).kd = 5) : rk_Con mR_value (4, 71, 0, 0) [.ref (A 0), .int (nI n), .int (nI j)] (rv b A X) (rk_Rv (.int (vR X n j)) (rv b A X)) := by
  obtain ⟨⟨hno, hn, hwf, hS⟩, hw8, h81, h82⟩ := id V
  obtain ⟨⟨bn, ⟨n1, n2, n3⟩, nsc⟩, hkind⟩ := hwf n hn
  have hce := bn.ce
  obtain ⟨y1, x1, c1⟩ := yxc (show j < (X.N n).h * (X.N n).w * (X.N n).c from hj)
  have bc := bn.1.2.2.2.1
  have bw := bn.1.2.2.1
  have bh := bn.1.2.1
  obtain ⟨a, a2, ⟨ho, ha⟩, ⟨ht, ha2⟩, hK⟩ : ∃ a a2 : Nat, ((X.N n).one = some a ∧ a < n) ∧ ((X.N n).two = some a2 ∧ a2 < n) ∧ (((X.N n).h = (X.N a).h ∧ (X.N n).w = (X.N a).w ∧ (X.N n).h = (X.N a2).h ∧ (X.N n).w = (X.N a2).w) ∧ (X.N n).c = (X.N a).c + (X.N a2).c ∧ (X.N n).sc = (X.N a).sc ∧ (X.N n).sc = (X.N a2).sc) := by
    rcases hkind with ⟨h, -⟩ | ⟨a, -, -, h⟩ | ⟨a, c, h1, h2, h⟩
    · omega
    · omega
    · refine ⟨a, c, h1, h2, ?_⟩
      rcases h with h | h <;> first | exact absurd h.1 (by omega) | exact h.2
  obtain ⟨s2l, ⟨s2h, s2w, s2c⟩, s2ce, s2sc⟩ := V.s (show a2 < X.no by omega)
  have e2S : mnt X.st (some a2) = nI (stS X.N a2) := hS a2 (by omega)
  have b2n := wfN.bd hwf (stS X.N a2) (by omega)
  have b2c := b2n.ce
  obtain ⟨s1l, ⟨s1h, s1w, s1c⟩, s1ce, s1sc⟩ := V.s (show a < X.no by omega)
  have e1S : mnt X.st (some a) = nI (stS X.N a) := hS a (by omega)
  have bs := wfN.bd hwf (stS X.N a) (by omega)
  have bsc := bs.ce
  have f8 : ∀ z, z < (X.N (stS X.N a)).ce → in8 (X.ce (128 * stS X.N a + z)) := fun z hz => h81 a ho z (by rw [s1ce]; exact hz)
  have eV := vR_o (j := j) V ho (show a < X.no by omega)
  rw [eV]
  have hx1 : (j % (X.N n).c) < (X.N (stS X.N a)).c → ((j / (X.N n).c / (X.N n).w) * (X.N (stS X.N a)).w + (j / (X.N n).c % (X.N n).w)) * (X.N (stS X.N a)).c + (j % (X.N n).c) < (X.N (stS X.N a)).ce := fun h => ix3 (A := (X.N (stS X.N a)).h) (by rw [← s1h, ← hK.1.1]; exact y1) (by rw [← s1w, ← hK.1.2.1]; exact x1) h
  have hx2 : ¬ (j % (X.N n).c) < (X.N (stS X.N a)).c → ((j / (X.N n).c / (X.N n).w) * (X.N (stS X.N a2)).w + (j / (X.N n).c % (X.N n).w)) * (X.N (stS X.N a2)).c + ((j % (X.N n).c) - (X.N (stS X.N a)).c) < (X.N (stS X.N a2)).ce := fun h => ix3 (A := (X.N (stS X.N a2)).h) (by rw [← s2h, ← hK.1.2.2.1]; exact y1) (by rw [← s2w, ← hK.1.2.2.2]; exact x1) (by have := hK.2.1; omega)
  have hj1 := fun h => Nat.lt_of_lt_of_le (hx1 h) bsc
  have hj2 := fun h => Nat.lt_of_lt_of_le (hx2 h) b2c
  have ejc : (j / (X.N n).c / (X.N n).w) * (X.N n).w + (j / (X.N n).c % (X.N n).w) = j / (X.N n).c := by rw [Nat.mul_comm, Nat.div_add_mod]
  have jn_eq : (if (j % (X.N n).c) < (X.N (stS X.N a)).c then X.ce (128 * (stS X.N a) + ((j / (X.N n).c / (X.N n).w) * (X.N (stS X.N a)).w + (j / (X.N n).c % (X.N n).w)) * (X.N (stS X.N a)).c + (j % (X.N n).c)) else X.ce (128 * stS X.N a2 + ((j / (X.N n).c / (X.N n).w) * (X.N (stS X.N a2)).w + (j / (X.N n).c % (X.N n).w)) * (X.N (stS X.N a2)).c + ((j % (X.N n).c) - (X.N (stS X.N a)).c))) = (if (j % (X.N n).c) < (X.N (stS X.N a)).c then X.ce (128 * (stS X.N a) + (j / (X.N n).c * (X.N (stS X.N a)).c + (j % (X.N n).c))) else caR X (some a2) (j / (X.N n).c * ((X.N n).c - (X.N (stS X.N a)).c) + ((j % (X.N n).c) - (X.N (stS X.N a)).c))) := by
    rw [show (X.N (stS X.N a)).w = (X.N n).w by rw [← s1w, hK.1.2.1], show (X.N (stS X.N a2)).w = (X.N n).w by rw [← s2w, hK.1.2.2.2], ejc, show (X.N (stS X.N a2)).c = (X.N n).c - (X.N (stS X.N a)).c by rw [← s2c, ← s1c]; omega, Nat.add_assoc, Nat.add_assoc]
    rfl
  refine rk_Con.of [some (.ref (A 0)), some (.int (nI n)), some (.int (nI j)), none, none, none, none, none, none, none] rfl (Nat.le_of_ble_eq_true rfl) (by decide +kernel) ?_
  refine rk_aload_n dR_value_0 rfl ?_
  refine rk_aload_n dR_value_1 rfl ?_
  refine rk_getf fR_20 dR_value_2 k.m rfl ?_
  refine rk_iload_n dR_value_5 rfl ?_
  refine rk_iald dR_value_6 k.on (vp_in_nI (show n < 14 by omega) (by omega)) ?_
  rw [nI_clamp (show n < 2 ^ 31 by omega), ho]
  refine rk_cvV (c_R_standFor b A X k (some a) (fun z hz => by cases hz; omega)) cR_143 dR_value_7 rfl lR_standFor (Nat.le_of_ble_eq_true rfl) (Nat.le_of_ble_eq_true rfl) (Nat.le_of_ble_eq_true rfl) (Nat.le_of_ble_eq_true rfl) k.m ?_
  rw [e1S]
  refine rk_istore_n dR_value_10 (Nat.le_of_ble_eq_true rfl) ?_
  refine rk_lv [some (.ref (A 0)), some (.int (nI n)), some (.int (nI j)), some (.int (nI (stS X.N a))), none, none, none, none, none, none] ⟨rfl, rfl, rfl, rfl, trivial⟩ ?_
  refine rk_aload_n dR_value_11 rfl ?_
  refine rk_aload_n dR_value_12 rfl ?_
  refine rk_getf fR_23 dR_value_13 k.m rfl ?_
  refine rk_iload_n dR_value_16 rfl ?_
  refine rk_iald dR_value_17 k.tw (vp_in_nI (show n < 14 by omega) (by omega)) ?_
  rw [nI_clamp (show n < 2 ^ 31 by omega), ht]
  refine rk_cvV (c_R_standFor b A X k (some a2) (fun z hz => by cases hz; omega)) cR_143 dR_value_18 rfl lR_standFor (Nat.le_of_ble_eq_true rfl) (Nat.le_of_ble_eq_true rfl) (Nat.le_of_ble_eq_true rfl) (Nat.le_of_ble_eq_true rfl) k.m ?_
  rw [e2S]
  refine rk_istore dR_value_21 (Nat.le_of_ble_eq_true rfl) ?_
  refine rk_lv [some (.ref (A 0)), some (.int (nI n)), some (.int (nI j)), some (.int (nI (stS X.N a))), some (.int (nI (stS X.N a2))), none, none, none, none, none] ⟨rfl, rfl, rfl, rfl, rfl, trivial⟩ ?_
  refine rk_iload_n dR_value_23 rfl ?_
  refine rk_aload_n dR_value_24 rfl ?_
  refine rk_getf fR_32 dR_value_25 k.m rfl ?_
  refine rk_iload_n dR_value_28 rfl ?_
  refine rk_iald dR_value_29 k.de (vp_in_nI (show n < 14 by omega) (by omega)) ?_
  rw [nI_clamp (show n < 2 ^ 31 by omega)]
  refine rk_irem dR_value_30 (nI_ne0 (by omega) (by omega)) ?_
  rw [pk_rem (by omega) (by omega) (by omega)]
  refine rk_istore dR_value_31 (Nat.le_of_ble_eq_true rfl) ?_
  refine rk_lv [some (.ref (A 0)), some (.int (nI n)), some (.int (nI j)), some (.int (nI (stS X.N a))), some (.int (nI (stS X.N a2))), some (.int (nI (j % (X.N n).c))), none, none, none, none] ⟨rfl, rfl, rfl, rfl, rfl, rfl, trivial⟩ ?_
  refine rk_iload_n dR_value_33 rfl ?_
  refine rk_aload_n dR_value_34 rfl ?_
  refine rk_getf fR_32 dR_value_35 k.m rfl ?_
  refine rk_iload_n dR_value_38 rfl ?_
  refine rk_iald dR_value_39 k.de (vp_in_nI (show n < 14 by omega) (by omega)) ?_
  rw [nI_clamp (show n < 2 ^ 31 by omega)]
  refine rk_idiv dR_value_40 (nI_ne0 (by omega) (by omega)) ?_
  rw [pk_div (by omega) (by omega) (by omega)]
  refine rk_aload_n dR_value_41 rfl ?_
  refine rk_getf fR_29 dR_value_42 k.m rfl ?_
  refine rk_iload_n dR_value_45 rfl ?_
  refine rk_iald dR_value_46 k.wi (vp_in_nI (show n < 14 by omega) (by omega)) ?_
  rw [nI_clamp (show n < 2 ^ 31 by omega)]
  refine rk_irem dR_value_47 (nI_ne0 (by omega) (by omega)) ?_
  rw [pk_rem (by have := Nat.div_le_self j (X.N n).c; omega) (by omega) (by omega)]
  refine rk_istore dR_value_48 (Nat.le_of_ble_eq_true rfl) ?_
  refine rk_lv [some (.ref (A 0)), some (.int (nI n)), some (.int (nI j)), some (.int (nI (stS X.N a))), some (.int (nI (stS X.N a2))), some (.int (nI (j % (X.N n).c))), some (.int (nI (j / (X.N n).c % (X.N n).w))), none, none, none] ⟨rfl, rfl, rfl, rfl, rfl, rfl, rfl, trivial⟩ ?_
  refine rk_iload_n dR_value_50 rfl ?_
  refine rk_aload_n dR_value_51 rfl ?_
  refine rk_getf fR_32 dR_value_52 k.m rfl ?_
  refine rk_iload_n dR_value_55 rfl ?_
  refine rk_iald dR_value_56 k.de (vp_in_nI (show n < 14 by omega) (by omega)) ?_
  rw [nI_clamp (show n < 2 ^ 31 by omega)]
  refine rk_idiv dR_value_57 (nI_ne0 (by omega) (by omega)) ?_
  rw [pk_div (by omega) (by omega) (by omega)]
  refine rk_aload_n dR_value_58 rfl ?_
  refine rk_getf fR_29 dR_value_59 k.m rfl ?_
  refine rk_iload_n dR_value_62 rfl ?_
  refine rk_iald dR_value_63 k.wi (vp_in_nI (show n < 14 by omega) (by omega)) ?_
  rw [nI_clamp (show n < 2 ^ 31 by omega)]
  refine rk_idiv dR_value_64 (nI_ne0 (by omega) (by omega)) ?_
  rw [pk_div (by have := Nat.div_le_self j (X.N n).c; omega) (by omega) (by omega)]
  refine rk_istore dR_value_65 (Nat.le_of_ble_eq_true rfl) ?_
  refine rk_lv [some (.ref (A 0)), some (.int (nI n)), some (.int (nI j)), some (.int (nI (stS X.N a))), some (.int (nI (stS X.N a2))), some (.int (nI (j % (X.N n).c))), some (.int (nI (j / (X.N n).c % (X.N n).w))), some (.int (nI (j / (X.N n).c / (X.N n).w))), none, none] ⟨rfl, rfl, rfl, rfl, rfl, rfl, rfl, rfl, trivial⟩ ?_
  refine rk_aload_n dR_value_67 rfl ?_
  refine rk_getf fR_17 dR_value_68 k.m rfl ?_
  refine rk_iload_n dR_value_71 rfl ?_
  refine rk_iald dR_value_72 k.kd (vp_in_nI (show n < 14 by omega) (by omega)) ?_
  rw [nI_clamp (show n < 2 ^ 31 by omega), hk]
  refine rk_iconst (v := 1) dR_value_73 (by decide) ?_
  refine rk_icmp_lt 110 dR_value_74 (by decide) (fun q_74 => (by exact absurd q_74 (by decide))) (fun q_74 => ?_)
  refine rk_aload_n dR_value_77 rfl ?_
  refine rk_getf fR_17 dR_value_78 k.m rfl ?_
  refine rk_iload_n dR_value_81 rfl ?_
  refine rk_iald dR_value_82 k.kd (vp_in_nI (show n < 14 by omega) (by omega)) ?_
  rw [nI_clamp (show n < 2 ^ 31 by omega), hk]
  refine rk_iconst (v := 3) dR_value_83 (by decide) ?_
  refine rk_icmp_gt 110 dR_value_84 (by decide) (fun q_84 => ?_) (fun q_84 => (by exact absurd (by decide) q_84))
  refine rk_dconst0 dR_value_110 ?_
  refine rk_dstore dR_value_111 (Nat.le_of_ble_eq_true rfl) ?_
  refine rk_lv [some (.ref (A 0)), some (.int (nI n)), some (.int (nI j)), some (.int (nI (stS X.N a))), some (.int (nI (stS X.N a2))), some (.int (nI (j % (X.N n).c))), some (.int (nI (j / (X.N n).c % (X.N n).w))), some (.int (nI (j / (X.N n).c / (X.N n).w))), some (.double FP.dconst0), none] ⟨rfl, rfl, rfl, rfl, rfl, rfl, rfl, rfl, rfl, trivial⟩ ?_
  refine rk_aload_n dR_value_113 rfl ?_
  refine rk_getf fR_17 dR_value_114 k.m rfl ?_
  refine rk_iload_n dR_value_117 rfl ?_
  refine rk_iald dR_value_118 k.kd (vp_in_nI (show n < 14 by omega) (by omega)) ?_
  rw [nI_clamp (show n < 2 ^ 31 by omega), hk]
  refine rk_tableIn (off := 176) 295 dR_value_119 (by decide) (by decide) (by decide) (by decide) ?_
  refine rk_aload_n dR_value_295 rfl ?_
  refine rk_iload_n dR_value_296 rfl ?_
  refine rk_iload dR_value_297 rfl ?_
  refine rk_iload dR_value_299 rfl ?_
  refine rk_iload dR_value_301 rfl ?_
  refine rk_iload dR_value_303 rfl ?_
  refine rk_cvV (c_R_joined b A X k (stS X.N a) (stS X.N a2) (j / (X.N n).c / (X.N n).w) (j / (X.N n).c % (X.N n).w) (j % (X.N n).c) (by omega) (by omega) (by have := bs.1.2.2.2.1; omega) (by omega) hj1 hj2) cR_222 dR_value_305 rfl lR_joined (Nat.le_of_ble_eq_true rfl) (Nat.le_of_ble_eq_true rfl) (Nat.le_of_ble_eq_true rfl) (Nat.le_of_ble_eq_true rfl) k.m ?_
  exact rk_iret rfl dR_value_308 ⟨(Nat.le_of_ble_eq_true rfl), (Nat.le_of_ble_eq_true rfl)⟩ (⟨by unfold vNode; rw [if_neg (show ¬ (X.N n).kd = 0 by omega), if_neg (show ¬ (X.N n).kd = 3 by omega), if_neg (show ¬ (X.N n).kd = 4 by omega), if_pos hk]; exact congrArg (fun v => Sum.inl (some (Value.int v))) jn_eq, rfl⟩)
theorem c_R_value (b : rk_H) (A : Nat → Nat) (X : rX) (k : rA A) (n j : Nat) (V : vOK X n) (hj : j < (X.N n).ce) : rk_Con mR_value (4, 71, 0, 0) [.ref (A 0), .int (nI n), .int (nI j)] (rv b A X) (rk_Rv (.int (vR X n j)) (rv b A X)) := by
  have hb := (wfN.bd V.1.2.2.1 n V.1.2.1).1.1
  rcases (show (X.N n).kd = 0 ∨ (X.N n).kd = 1 ∨ (X.N n).kd = 2 ∨ (X.N n).kd = 3 ∨ (X.N n).kd = 4 ∨ (X.N n).kd = 5 ∨ (X.N n).kd = 6 ∨ (X.N n).kd = 7 ∨ (X.N n).kd = 8 ∨ (X.N n).kd = 9 ∨ (X.N n).kd = 10 by omega) with h | h | h | h | h | h | h | h | h | h | h
  · exact c_R_value0 b A X k n j V hj h
  · exact c_R_value1 b A X k n j V hj h
  · exact c_R_value2 b A X k n j V hj h
  · exact c_R_value3 b A X k n j V hj h
  · exact c_R_value4 b A X k n j V hj h
  · exact c_R_value5 b A X k n j V hj h
  · exact c_R_value6 b A X k n j V hj h
  · exact c_R_value7 b A X k n j V hj h
  · exact c_R_value8 b A X k n j V hj h
  · exact c_R_value9 b A X k n j V hj h
  · exact c_R_value10 b A X k n j V hj h
