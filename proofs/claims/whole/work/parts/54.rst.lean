/-! the reference: what stands for what -/
theorem c_R_standFor (b : rk_H) (A : Nat → Nat) (X : rX) (k : rA A) (o : Option Nat) (ho : oB14 o) : rk_Con mR_standFor (0, 0, 0, 0) [.ref (A 0), .int (oI o)] (rv b A X) (rk_Rv (.int (mnt X.st o)) (rv b A X)) := by
  cases o with
  | none =>
    refine rk_Con.of [some (.ref (A 0)), some (.int (oI none))] rfl (Nat.le_of_ble_eq_true rfl) (by decide +kernel) ?_
    refine rk_iload_n dR_standFor_0 rfl ?_
    refine rk_if_ge 8 dR_standFor_1 (by decide) (fun q_1 => ?_) (fun q_1 => ?_)
    · exact absurd q_1 (by decide)
    · refine rk_iconst (v := -1) dR_standFor_4 (by decide) ?_
      refine rk_goto 14 dR_standFor_5 (by decide) ?_
      exact rk_iret rfl dR_standFor_14 ⟨(Nat.le_of_ble_eq_true rfl), (Nat.le_of_ble_eq_true rfl)⟩ (⟨rfl, rfl⟩)
  | some a =>
    have ha := ho a rfl
    refine rk_Con.of [some (.ref (A 0)), some (.int (nI a))] rfl (Nat.le_of_ble_eq_true rfl) (by decide +kernel) ?_
    refine rk_iload_n dR_standFor_0 rfl ?_
    refine rk_if_ge 8 dR_standFor_1 (by decide) (fun q_1 => ?_) (fun q_1 => ?_)
    · refine rk_aload_n dR_standFor_8 rfl ?_
      refine rk_getf fR_64 dR_standFor_9 k.m rfl ?_
      refine rk_iload_n dR_standFor_12 rfl ?_
      refine rk_iald dR_standFor_13 k.st (vp_in_nI ha (by omega)) ?_
      exact rk_iret rfl dR_standFor_14 ⟨(Nat.le_of_ble_eq_true rfl), (Nat.le_of_ble_eq_true rfl)⟩ (⟨by rw [nI_clamp (by omega)]; rfl, rfl⟩)
    · exact absurd (nI_pos' (by omega)) q_1
theorem rk_int1 {M : rk_M} {B : rk_B} {P : rk_P} {pc : Nat} {lv : List (Option Value)} {st : List Value} {h : rk_H} {u : rk_U} {w v : Int32} (e : w = v) (r : rk_Run M B P pc lv (.int v :: st) h u) : rk_Run M B P pc lv (.int w :: st) h u := by rw [e]; exact r
theorem c_R_alike (b : rk_H) (A : Nat → Nat) (X : rX) (k : rA A) (S : Nat → Nat) (n m : Nat) (hn : n < 14) (hm : m < n) (hin : inOK X.N (n + 1)) (hbd : bdOK X.N (n + 1)) (hS : sfK X.st S n) (hSl : ∀ j : Nat, j < n → S j ≤ j) : rk_Con mR_alike (1, 14, 0, 0) [.ref (A 0), .int (nI n), .int (nI m)] (rv b A X) (rk_Rv (.int (b2i (alk X.N S m n))) (rv b A X)) := by
  have on1 : ∀ a, (X.N n).one = some a → a < n := (hin n (by omega)).1
  have on2 : ∀ a, (X.N n).two = some a → a < n := (hin n (by omega)).2
  have om1 : ∀ a, (X.N m).one = some a → a < n := fun a ha => by have := (hin m (by omega)).1 a ha; omega
  have om2 : ∀ a, (X.N m).two = some a → a < n := fun a ha => by have := (hin m (by omega)).2 a ha; omega
  have bn := hbd n (by omega)
  have bm := hbd m (by omega)
  have e1 := oI_mS (o := (X.N n).one) (p := (X.N m).one) (by omega) hSl on1 om1
  have e2 := oI_mS (o := (X.N n).two) (p := (X.N m).two) (by omega) hSl on2 om2
  have ec : nI (X.N n).c = nI (X.N m).c ↔ (X.N n).c = (X.N m).c := nI_eq (by have := bn.1.2.2.2.1; omega) (by have := bm.1.2.2.2.1; omega)
  have eo : nI (X.N n).co = nI (X.N m).co ↔ (X.N n).co = (X.N m).co := nI_eq (by have := bn.1.2.2.2.2.1; omega) (by have := bm.1.2.2.2.2.1; omega)
  have ef : nI (X.N n).off = nI (X.N m).off ↔ (X.N n).off = (X.N m).off := nI_eq (by have := bn.1.2.2.2.2.2; omega) (by have := bm.1.2.2.2.2.2; omega)
  have ek : nI (X.N n).kd = nI (X.N m).kd ↔ (X.N n).kd = (X.N m).kd := nI_eq (by have := bn.1.1; omega) (by have := bm.1.1; omega)
  have es := d_eq_iff (x := (X.N n).sc) (y := (X.N m).sc) bn.2.1 bm.2.1
  have ew := d_eq_iff (x := (X.N n).ws) (y := (X.N m).ws) bn.2.2 bm.2.2
  unfold d_eq at es ew
  rw [decide_eq_decide] at es ew
  have ea : alk X.N S m n = (decide ((X.N n).kd = (X.N m).kd) && (decide ((X.N n).one.map S = (X.N m).one.map S) && decide ((X.N n).two.map S = (X.N m).two.map S)) && (decide ((X.N n).h = (X.N m).h) && decide ((X.N n).w = (X.N m).w) && decide ((X.N n).c = (X.N m).c) && decide ((X.N n).sc = (X.N m).sc)) && (decide ((X.N n).co = (X.N m).co) && decide ((X.N n).off = (X.N m).off) && decide ((X.N n).lo = (X.N m).lo) && decide ((X.N n).hi = (X.N m).hi)) && decide ((X.N n).ws = (X.N m).ws)) := by
    unfold alk smq shq
    rw [Bool.eq_iff_iff]
    simp only [Bool.and_eq_true, decide_eq_true_eq]
    constructor
    · rintro ⟨⟨⟨⟨⟨⟨⟨⟨⟨a1, ⟨a2, a3⟩, a4⟩, a5⟩, a6⟩, a7⟩, a8⟩, a9⟩, a10⟩, a11⟩, a12⟩
      exact ⟨⟨⟨⟨a1.symm, a11.symm, a12.symm⟩, ⟨⟨a2.symm, a3.symm⟩, a4.symm⟩, a5.symm⟩, ⟨⟨a6.symm, a7.symm⟩, a9.symm⟩, a10.symm⟩, a8.symm⟩
    · rintro ⟨⟨⟨⟨a1, a11, a12⟩, ⟨⟨a2, a3⟩, a4⟩, a5⟩, ⟨⟨a6, a7⟩, a9⟩, a10⟩, a8⟩
      exact ⟨⟨⟨⟨⟨⟨⟨⟨⟨a1.symm, ⟨a2.symm, a3.symm⟩, a4.symm⟩, a5.symm⟩, a6.symm⟩, a7.symm⟩, a8.symm⟩, a9.symm⟩, a10.symm⟩, a11.symm⟩, a12.symm⟩
  rw [ea]
  generalize hp1 : (decide ((X.N n).one.map S = (X.N m).one.map S) && decide ((X.N n).two.map S = (X.N m).two.map S)) = p1
  generalize hp2 : (decide ((X.N n).h = (X.N m).h) && decide ((X.N n).w = (X.N m).w) && decide ((X.N n).c = (X.N m).c) && decide ((X.N n).sc = (X.N m).sc)) = p2
  generalize hp3 : (decide ((X.N n).co = (X.N m).co) && decide ((X.N n).off = (X.N m).off) && decide ((X.N n).lo = (X.N m).lo) && decide ((X.N n).hi = (X.N m).hi)) = p3
  have T4 : rk_Run mR_alike (1, 14, 0, 0) (rk_Rv (.int (b2i (decide ((X.N n).kd = (X.N m).kd) && p1 && p2 && p3 && decide ((X.N n).ws = (X.N m).ws)))) (rv b A X)) 166 [some (.ref (A 0)), some (.int (nI n)), some (.int (nI m)), some (.int (b2i p1)), some (.int (b2i p2)), some (.int (b2i p3))] [] (rv b A X) (0, 0) := by
    refine rk_aload_n dR_alike_166 rfl ?_
    refine rk_getf fR_17 dR_alike_167 k.m rfl ?_
    refine rk_iload_n dR_alike_170 rfl ?_
    refine rk_iald dR_alike_171 k.kd (vp_in_nI (show n < 14 by omega) (by omega)) ?_
    rw [nI_clamp (show n < 2 ^ 31 by omega)]
    refine rk_aload_n dR_alike_172 rfl ?_
    refine rk_getf fR_17 dR_alike_173 k.m rfl ?_
    refine rk_iload_n dR_alike_176 rfl ?_
    refine rk_iald dR_alike_177 k.kd (vp_in_nI (show m < 14 by omega) (by omega)) ?_
    rw [nI_clamp (show m < 2 ^ 31 by omega)]
    refine rk_icmp_ne 215 dR_alike_178 (by decide) (fun q_178 => ?_) (fun q_178 => ?_)
    · refine rk_iconst (v := 0) dR_alike_215 (by decide) ?_
      exact rk_zret rfl rfl dR_alike_216 ⟨(Nat.le_of_ble_eq_true rfl), (Nat.le_of_ble_eq_true rfl)⟩ (⟨by clear hp1 hp2 hp3 ea e1 e2; simp_all [b2i], rfl⟩)
    · refine rk_iload_n dR_alike_181 rfl ?_
      refine rk_if_eq 215 dR_alike_182 (by decide) (fun q_182 => ?_) (fun q_182 => ?_)
      · refine rk_iconst (v := 0) dR_alike_215 (by decide) ?_
        exact rk_zret rfl rfl dR_alike_216 ⟨(Nat.le_of_ble_eq_true rfl), (Nat.le_of_ble_eq_true rfl)⟩ (⟨by clear hp1 hp2 hp3 ea e1 e2; simp_all [b2i], rfl⟩)
      · refine rk_iload dR_alike_185 rfl ?_
        refine rk_if_eq 215 dR_alike_187 (by decide) (fun q_187 => ?_) (fun q_187 => ?_)
        · refine rk_iconst (v := 0) dR_alike_215 (by decide) ?_
          exact rk_zret rfl rfl dR_alike_216 ⟨(Nat.le_of_ble_eq_true rfl), (Nat.le_of_ble_eq_true rfl)⟩ (⟨by clear hp1 hp2 hp3 ea e1 e2; simp_all [b2i], rfl⟩)
        · refine rk_iload dR_alike_190 rfl ?_
          refine rk_if_eq 215 dR_alike_192 (by decide) (fun q_192 => ?_) (fun q_192 => ?_)
          · refine rk_iconst (v := 0) dR_alike_215 (by decide) ?_
            exact rk_zret rfl rfl dR_alike_216 ⟨(Nat.le_of_ble_eq_true rfl), (Nat.le_of_ble_eq_true rfl)⟩ (⟨by clear hp1 hp2 hp3 ea e1 e2; simp_all [b2i], rfl⟩)
          · refine rk_aload_n dR_alike_195 rfl ?_
            refine rk_getf fR_39 dR_alike_196 k.m rfl ?_
            refine rk_iload_n dR_alike_199 rfl ?_
            refine rk_dald dR_alike_200 k.nw (vp_in_nI (show n < 14 by omega) (by omega)) ?_
            rw [nI_clamp (show n < 2 ^ 31 by omega)]
            refine rk_aload_n dR_alike_201 rfl ?_
            refine rk_getf fR_39 dR_alike_202 k.m rfl ?_
            refine rk_iload_n dR_alike_205 rfl ?_
            refine rk_dald dR_alike_206 k.nw (vp_in_nI (show m < 14 by omega) (by omega)) ?_
            rw [nI_clamp (show m < 2 ^ 31 by omega)]
            refine rk_dcmp dR_alike_207 ?_
            refine rk_if_ne 215 dR_alike_208 (by decide) (fun q_208 => ?_) (fun q_208 => ?_)
            · refine rk_iconst (v := 0) dR_alike_215 (by decide) ?_
              exact rk_zret rfl rfl dR_alike_216 ⟨(Nat.le_of_ble_eq_true rfl), (Nat.le_of_ble_eq_true rfl)⟩ (⟨by clear hp1 hp2 hp3 ea e1 e2; simp_all [b2i], rfl⟩)
            · refine rk_iconst (v := 1) dR_alike_211 (by decide) ?_
              refine rk_goto 216 dR_alike_212 (by decide) ?_
              exact rk_zret rfl rfl dR_alike_216 ⟨(Nat.le_of_ble_eq_true rfl), (Nat.le_of_ble_eq_true rfl)⟩ (⟨by clear hp1 hp2 hp3 ea e1 e2; simp_all [b2i], rfl⟩)
  have T3 : rk_Run mR_alike (1, 14, 0, 0) (rk_Rv (.int (b2i (decide ((X.N n).kd = (X.N m).kd) && p1 && p2 && p3 && decide ((X.N n).ws = (X.N m).ws)))) (rv b A X)) 99 [some (.ref (A 0)), some (.int (nI n)), some (.int (nI m)), some (.int (b2i p1)), some (.int (b2i p2)), none] [] (rv b A X) (0, 0) := by
    refine rk_aload_n dR_alike_99 rfl ?_
    refine rk_getf fR_42 dR_alike_100 k.m rfl ?_
    refine rk_iload_n dR_alike_103 rfl ?_
    refine rk_iald dR_alike_104 k.co (vp_in_nI (show n < 14 by omega) (by omega)) ?_
    rw [nI_clamp (show n < 2 ^ 31 by omega)]
    refine rk_aload_n dR_alike_105 rfl ?_
    refine rk_getf fR_42 dR_alike_106 k.m rfl ?_
    refine rk_iload_n dR_alike_109 rfl ?_
    refine rk_iald dR_alike_110 k.co (vp_in_nI (show m < 14 by omega) (by omega)) ?_
    rw [nI_clamp (show m < 2 ^ 31 by omega)]
    refine rk_icmp_ne 163 dR_alike_111 (by decide) (fun q_111 => ?_) (fun q_111 => ?_)
    · refine rk_iconst (v := 0) dR_alike_163 (by decide) ?_
      first | (refine rk_int1 (v := b2i p3) (by clear T4; simp_all [b2i]) ?_; refine rk_istore dR_alike_164 (Nat.le_of_ble_eq_true rfl) ?_; exact T4)
    · refine rk_aload_n dR_alike_114 rfl ?_
      refine rk_getf fR_45 dR_alike_115 k.m rfl ?_
      refine rk_iload_n dR_alike_118 rfl ?_
      refine rk_iald dR_alike_119 k.of (vp_in_nI (show n < 14 by omega) (by omega)) ?_
      rw [nI_clamp (show n < 2 ^ 31 by omega)]
      refine rk_aload_n dR_alike_120 rfl ?_
      refine rk_getf fR_45 dR_alike_121 k.m rfl ?_
      refine rk_iload_n dR_alike_124 rfl ?_
      refine rk_iald dR_alike_125 k.of (vp_in_nI (show m < 14 by omega) (by omega)) ?_
      rw [nI_clamp (show m < 2 ^ 31 by omega)]
      refine rk_icmp_ne 163 dR_alike_126 (by decide) (fun q_126 => ?_) (fun q_126 => ?_)
      · refine rk_iconst (v := 0) dR_alike_163 (by decide) ?_
        first | (refine rk_int1 (v := b2i p3) (by clear T4; simp_all [b2i]) ?_; refine rk_istore dR_alike_164 (Nat.le_of_ble_eq_true rfl) ?_; exact T4)
      · refine rk_aload_n dR_alike_129 rfl ?_
        refine rk_getf fR_48 dR_alike_130 k.m rfl ?_
        refine rk_iload_n dR_alike_133 rfl ?_
        refine rk_iald dR_alike_134 k.lo (vp_in_nI (show n < 14 by omega) (by omega)) ?_
        rw [nI_clamp (show n < 2 ^ 31 by omega)]
        refine rk_aload_n dR_alike_135 rfl ?_
        refine rk_getf fR_48 dR_alike_136 k.m rfl ?_
        refine rk_iload_n dR_alike_139 rfl ?_
        refine rk_iald dR_alike_140 k.lo (vp_in_nI (show m < 14 by omega) (by omega)) ?_
        rw [nI_clamp (show m < 2 ^ 31 by omega)]
        refine rk_icmp_ne 163 dR_alike_141 (by decide) (fun q_141 => ?_) (fun q_141 => ?_)
        · refine rk_iconst (v := 0) dR_alike_163 (by decide) ?_
          first | (refine rk_int1 (v := b2i p3) (by clear T4; simp_all [b2i]) ?_; refine rk_istore dR_alike_164 (Nat.le_of_ble_eq_true rfl) ?_; exact T4)
        · refine rk_aload_n dR_alike_144 rfl ?_
          refine rk_getf fR_51 dR_alike_145 k.m rfl ?_
          refine rk_iload_n dR_alike_148 rfl ?_
          refine rk_iald dR_alike_149 k.to (vp_in_nI (show n < 14 by omega) (by omega)) ?_
          rw [nI_clamp (show n < 2 ^ 31 by omega)]
          refine rk_aload_n dR_alike_150 rfl ?_
          refine rk_getf fR_51 dR_alike_151 k.m rfl ?_
          refine rk_iload_n dR_alike_154 rfl ?_
          refine rk_iald dR_alike_155 k.to (vp_in_nI (show m < 14 by omega) (by omega)) ?_
          rw [nI_clamp (show m < 2 ^ 31 by omega)]
          refine rk_icmp_ne 163 dR_alike_156 (by decide) (fun q_156 => ?_) (fun q_156 => ?_)
          · refine rk_iconst (v := 0) dR_alike_163 (by decide) ?_
            first | (refine rk_int1 (v := b2i p3) (by clear T4; simp_all [b2i]) ?_; refine rk_istore dR_alike_164 (Nat.le_of_ble_eq_true rfl) ?_; exact T4)
          · refine rk_iconst (v := 1) dR_alike_159 (by decide) ?_
            refine rk_goto 164 dR_alike_160 (by decide) ?_
            first | (refine rk_int1 (v := b2i p3) (by clear T4; simp_all [b2i]) ?_; refine rk_istore dR_alike_164 (Nat.le_of_ble_eq_true rfl) ?_; exact T4)
  have T2 : rk_Run mR_alike (1, 14, 0, 0) (rk_Rv (.int (b2i (decide ((X.N n).kd = (X.N m).kd) && p1 && p2 && p3 && decide ((X.N n).ws = (X.N m).ws)))) (rv b A X)) 52 [some (.ref (A 0)), some (.int (nI n)), some (.int (nI m)), some (.int (b2i p1)), none, none] [] (rv b A X) (0, 0) := by
    refine rk_aload_n dR_alike_52 rfl ?_
    refine rk_iload_n dR_alike_53 rfl ?_
    refine rk_iload_n dR_alike_54 rfl ?_
    refine rk_cvV (c_R_sameSize b A X k n m hn (by omega) bn bm) cR_140 dR_alike_55 rfl lR_sameSize (Nat.le_of_ble_eq_true rfl) (Nat.le_of_ble_eq_true rfl) (Nat.le_of_ble_eq_true rfl) (Nat.le_of_ble_eq_true rfl) k.m ?_
    refine rk_if_eq 96 dR_alike_58 (by decide) (fun q_58 => ?_) (fun q_58 => ?_)
    · refine rk_iconst (v := 0) dR_alike_96 (by decide) ?_
      first | (refine rk_int1 (v := b2i p2) (by clear T4 T3; first | (rw [← hp2, b2p q_58]; rfl) | simp_all [b2i]) ?_; refine rk_istore dR_alike_97 (Nat.le_of_ble_eq_true rfl) ?_; exact T3)
    · refine rk_aload_n dR_alike_61 rfl ?_
      refine rk_getf fR_32 dR_alike_62 k.m rfl ?_
      refine rk_iload_n dR_alike_65 rfl ?_
      refine rk_iald dR_alike_66 k.de (vp_in_nI (show n < 14 by omega) (by omega)) ?_
      rw [nI_clamp (show n < 2 ^ 31 by omega)]
      refine rk_aload_n dR_alike_67 rfl ?_
      refine rk_getf fR_32 dR_alike_68 k.m rfl ?_
      refine rk_iload_n dR_alike_71 rfl ?_
      refine rk_iald dR_alike_72 k.de (vp_in_nI (show m < 14 by omega) (by omega)) ?_
      rw [nI_clamp (show m < 2 ^ 31 by omega)]
      refine rk_icmp_ne 96 dR_alike_73 (by decide) (fun q_73 => ?_) (fun q_73 => ?_)
      · refine rk_iconst (v := 0) dR_alike_96 (by decide) ?_
        first | (refine rk_int1 (v := b2i p2) (by clear T4 T3; first | (rw [← hp2, b2p q_58]; rfl) | simp_all [b2i]) ?_; refine rk_istore dR_alike_97 (Nat.le_of_ble_eq_true rfl) ?_; exact T3)
      · refine rk_aload_n dR_alike_76 rfl ?_
        refine rk_getf fR_35 dR_alike_77 k.m rfl ?_
        refine rk_iload_n dR_alike_80 rfl ?_
        refine rk_dald dR_alike_81 k.sc (vp_in_nI (show n < 14 by omega) (by omega)) ?_
        rw [nI_clamp (show n < 2 ^ 31 by omega)]
        refine rk_aload_n dR_alike_82 rfl ?_
        refine rk_getf fR_35 dR_alike_83 k.m rfl ?_
        refine rk_iload_n dR_alike_86 rfl ?_
        refine rk_dald dR_alike_87 k.sc (vp_in_nI (show m < 14 by omega) (by omega)) ?_
        rw [nI_clamp (show m < 2 ^ 31 by omega)]
        refine rk_dcmp dR_alike_88 ?_
        refine rk_if_ne 96 dR_alike_89 (by decide) (fun q_89 => ?_) (fun q_89 => ?_)
        · refine rk_iconst (v := 0) dR_alike_96 (by decide) ?_
          first | (refine rk_int1 (v := b2i p2) (by clear T4 T3; first | (rw [← hp2, b2p q_58]; rfl) | simp_all [b2i]) ?_; refine rk_istore dR_alike_97 (Nat.le_of_ble_eq_true rfl) ?_; exact T3)
        · refine rk_iconst (v := 1) dR_alike_92 (by decide) ?_
          refine rk_goto 97 dR_alike_93 (by decide) ?_
          first | (refine rk_int1 (v := b2i p2) (by clear T4 T3; first | (rw [← hp2, b2p q_58]; rfl) | simp_all [b2i]) ?_; refine rk_istore dR_alike_97 (Nat.le_of_ble_eq_true rfl) ?_; exact T3)
  refine rk_Con.of [some (.ref (A 0)), some (.int (nI n)), some (.int (nI m)), none, none, none] rfl (Nat.le_of_ble_eq_true rfl) (by decide +kernel) ?_
  refine rk_aload_n dR_alike_0 rfl ?_
  refine rk_aload_n dR_alike_1 rfl ?_
  refine rk_getf fR_20 dR_alike_2 k.m rfl ?_
  refine rk_iload_n dR_alike_5 rfl ?_
  refine rk_iald dR_alike_6 k.on (vp_in_nI (show n < 14 by omega) (by omega)) ?_
  rw [nI_clamp (show n < 2 ^ 31 by omega)]
  refine rk_cvV (c_R_standFor b A X k (X.N n).one (fun a ha => by have := on1 a ha; omega)) cR_143 dR_alike_7 rfl lR_standFor (Nat.le_of_ble_eq_true rfl) (Nat.le_of_ble_eq_true rfl) (Nat.le_of_ble_eq_true rfl) (Nat.le_of_ble_eq_true rfl) k.m ?_
  rw [mnt_S hS on1]
  refine rk_aload_n dR_alike_10 rfl ?_
  refine rk_aload_n dR_alike_11 rfl ?_
  refine rk_getf fR_20 dR_alike_12 k.m rfl ?_
  refine rk_iload_n dR_alike_15 rfl ?_
  refine rk_iald dR_alike_16 k.on (vp_in_nI (show m < 14 by omega) (by omega)) ?_
  rw [nI_clamp (show m < 2 ^ 31 by omega)]
  refine rk_cvV (c_R_standFor b A X k (X.N m).one (fun a ha => by have := om1 a ha; omega)) cR_143 dR_alike_17 rfl lR_standFor (Nat.le_of_ble_eq_true rfl) (Nat.le_of_ble_eq_true rfl) (Nat.le_of_ble_eq_true rfl) (Nat.le_of_ble_eq_true rfl) k.m ?_
  rw [mnt_S hS om1]
  refine rk_icmp_ne 50 dR_alike_20 (by decide) (fun q_20 => ?_) (fun q_20 => ?_)
  · refine rk_iconst (v := 0) dR_alike_50 (by decide) ?_
    first | (refine rk_int1 (v := b2i p1) (by clear T4 T3 T2; simp_all [b2i]) ?_; refine rk_istore_n dR_alike_51 (Nat.le_of_ble_eq_true rfl) ?_; exact T2)
  · refine rk_aload_n dR_alike_23 rfl ?_
    refine rk_aload_n dR_alike_24 rfl ?_
    refine rk_getf fR_23 dR_alike_25 k.m rfl ?_
    refine rk_iload_n dR_alike_28 rfl ?_
    refine rk_iald dR_alike_29 k.tw (vp_in_nI (show n < 14 by omega) (by omega)) ?_
    rw [nI_clamp (show n < 2 ^ 31 by omega)]
    refine rk_cvV (c_R_standFor b A X k (X.N n).two (fun a ha => by have := on2 a ha; omega)) cR_143 dR_alike_30 rfl lR_standFor (Nat.le_of_ble_eq_true rfl) (Nat.le_of_ble_eq_true rfl) (Nat.le_of_ble_eq_true rfl) (Nat.le_of_ble_eq_true rfl) k.m ?_
    rw [mnt_S hS on2]
    refine rk_aload_n dR_alike_33 rfl ?_
    refine rk_aload_n dR_alike_34 rfl ?_
    refine rk_getf fR_23 dR_alike_35 k.m rfl ?_
    refine rk_iload_n dR_alike_38 rfl ?_
    refine rk_iald dR_alike_39 k.tw (vp_in_nI (show m < 14 by omega) (by omega)) ?_
    rw [nI_clamp (show m < 2 ^ 31 by omega)]
    refine rk_cvV (c_R_standFor b A X k (X.N m).two (fun a ha => by have := om2 a ha; omega)) cR_143 dR_alike_40 rfl lR_standFor (Nat.le_of_ble_eq_true rfl) (Nat.le_of_ble_eq_true rfl) (Nat.le_of_ble_eq_true rfl) (Nat.le_of_ble_eq_true rfl) k.m ?_
    rw [mnt_S hS om2]
    refine rk_icmp_ne 50 dR_alike_43 (by decide) (fun q_43 => ?_) (fun q_43 => ?_)
    · refine rk_iconst (v := 0) dR_alike_50 (by decide) ?_
      first | (refine rk_int1 (v := b2i p1) (by clear T4 T3 T2; simp_all [b2i]) ?_; refine rk_istore_n dR_alike_51 (Nat.le_of_ble_eq_true rfl) ?_; exact T2)
    · refine rk_iconst (v := 1) dR_alike_46 (by decide) ?_
      refine rk_goto 51 dR_alike_47 (by decide) ?_
      first | (refine rk_int1 (v := b2i p1) (by clear T4 T3 T2; simp_all [b2i]) ?_; refine rk_istore_n dR_alike_51 (Nat.le_of_ble_eq_true rfl) ?_; exact T2)
theorem c_R_findStands (b : rk_H) (A : Nat → Nat) (X : rX) (k : rA A) (S : Nat → Nat) (n : Nat) (hn : n < 14) (hwf : wfI X.N n) (hin : inOK X.N (n + 1)) (hbd : bdOK X.N (n + 1)) (hS : sfK X.st S n) (hSl : ∀ j : Nat, j < n → S j ≤ j) : rk_Con mR_findStands (2, 31, 0, 0) [.ref (A 0), .int (nI n)] (rv b A X) (rk_R0 (rv b A (X.wst (upd X.st n (nI (stOf X.N S n)))))) := by
  have on1 : ∀ a, (X.N n).one = some a → a < n := (hin n (by omega)).1
  have bn := hbd n (by omega)
  have ek : ∀ v : Nat, v ≤ 10 → (nI (X.N n).kd = nI v ↔ (X.N n).kd = v) := fun v hv => nI_eq (by have := bn.1.1; omega) (by omega)
  have e6 := ek 6 (by omega)
  have e9 := ek 9 (by omega)
  have e10 := ek 10 (by omega)
  have e0 := ek 0 (by omega)
  have hX1 : ∀ f, (X.wst f).N = X.N := fun _ => rfl
  have hS1 : sfK (X.wst (upd X.st n (nI n))).st S n := fun j hj => (if_neg (by omega)).trans (hS j hj)
  have loop : ∀ (a2 a3 : Int32) (k1 m : Nat), m + k1 = n → ¬ idle X.N S n = true → ¬ (X.N n).kd = 0 → (∀ j, j < m → (decide (S j = j) && alk X.N S j n) = false) → rk_Run mR_findStands (2, 31, 0, 0) (rk_R0 (rv b A (X.wst (upd X.st n (nI (stOf X.N S n)))))) 150 [some (.ref (A 0)), some (.int (nI n)), some (.int a2), some (.int a3), some (.int (nI m))] [] (rv b A (X.wst (upd X.st n (nI n)))) (0, 0) := by
    intro a2 a3 k1
    induction k1 with
    | zero =>
      intro m hm hi hk hb
      have hm : m = n := by omega
      subst hm
      have est : stOf X.N S m = m := by
        unfold stOf
        rw [if_neg hi, if_neg hk]
        exact fstA_none.mpr hb
      rw [est]
      refine rk_iload dR_findStands_150 rfl ?_
      refine rk_iload_n dR_findStands_152 rfl ?_
      refine rk_icmp_ge 202 dR_findStands_153 (by decide) (fun q_153 => ?_) (fun q_153 => ?_)
      · exact rk_ret rfl dR_findStands_202 ⟨(Nat.le_of_ble_eq_true rfl), (Nat.le_of_ble_eq_true rfl)⟩ (⟨rfl, rfl⟩)
      · exact absurd (nI_le (Nat.le_refl _) (by omega)) q_153
    | succ k1 ih =>
      intro m hm hi hk hb
      have hz : (X.wst (upd X.st n (nI n))).st m = nI (S m) := hS1 m (by omega)
      have eSm : nI (S m) = nI m ↔ S m = m := nI_eq (by have := hSl m (by omega); omega) (by omega)
      by_cases hp : (decide (S m = m) && alk X.N S m n) = true
      · have hp' := and2.mp hp
        have est : stOf X.N S n = m := by
          unfold stOf
          rw [if_neg hi, if_neg hk]
          exact fstA_is hp hb (by omega)
        rw [est]
        refine rk_iload dR_findStands_150 rfl ?_
        refine rk_iload_n dR_findStands_152 rfl ?_
        refine rk_icmp_ge 202 dR_findStands_153 (by decide) (fun q_153 => ?_) (fun q_153 => ?_)
        · exact absurd q_153 (nI_ge (by omega) (by omega))
        · refine rk_aload_n dR_findStands_156 rfl ?_
          refine rk_getf fR_17 dR_findStands_157 k.m rfl ?_
          refine rk_iload_n dR_findStands_160 rfl ?_
          refine rk_iald dR_findStands_161 k.kd (vp_in_nI (show n < 14 by omega) (by omega)) ?_
          rw [nI_clamp (show n < 2 ^ 31 by omega)]
          refine rk_if_eq 202 dR_findStands_162 (by decide) (fun q_162 => ?_) (fun q_162 => ?_)
          · exact absurd (e0.mp q_162) hk
          · refine rk_aload_n dR_findStands_165 rfl ?_
            refine rk_getf fR_64 dR_findStands_166 k.m rfl ?_
            refine rk_iload dR_findStands_169 rfl ?_
            refine rk_iald dR_findStands_171 k.st (vp_in_nI (show m < 14 by omega) (by omega)) ?_
            rw [nI_clamp (show m < 2 ^ 31 by omega), hz]
            refine rk_iload dR_findStands_172 rfl ?_
            refine rk_icmp_ne 196 dR_findStands_174 (by decide) (fun q_174 => ?_) (fun q_174 => ?_)
            · exact absurd (eSm.mpr (of_decide_eq_true hp'.1)) q_174
            · refine rk_aload_n dR_findStands_177 rfl ?_
              refine rk_iload_n dR_findStands_178 rfl ?_
              refine rk_iload dR_findStands_179 rfl ?_
              refine rk_cvV (c_R_alike b A (X.wst (upd X.st n (nI n))) k S n m hn (by omega) hin hbd hS1 hSl) cR_146 dR_findStands_181 rfl lR_alike (Nat.le_of_ble_eq_true rfl) (Nat.le_of_ble_eq_true rfl) (Nat.le_of_ble_eq_true rfl) (Nat.le_of_ble_eq_true rfl) k.m ?_
              refine rk_if_eq 196 dR_findStands_184 (by decide) (fun q_184 => ?_) (fun q_184 => ?_)
              · exact absurd hp'.2 (by rw [show alk X.N S m n = false from b2p q_184]; decide)
              · refine rk_aload_n dR_findStands_187 rfl ?_
                refine rk_getf fR_64 dR_findStands_188 k.m rfl ?_
                refine rk_iload_n dR_findStands_191 rfl ?_
                refine rk_iload dR_findStands_192 rfl ?_
                refine rk_iast dR_findStands_194 k.st (vp_in_nI (show n < 14 by omega) (by omega)) ?_
                rw [k.ust]
                exact rk_ret rfl dR_findStands_195 ⟨(Nat.le_of_ble_eq_true rfl), (Nat.le_of_ble_eq_true rfl)⟩ (⟨rfl, by rw [nI_clamp (show n < 2 ^ 31 by omega)]; exact congrArg (fun f => rv b A (X.wst f)) upd_up2⟩)
      · have hp1 : (decide (S m = m) && alk X.N S m n) = false := Bool.eq_false_iff.mpr hp
        have nxt := ih (m + 1) (by omega) hi hk (fun j hj => by
          by_cases hjm : j = m
          · rw [hjm]; exact hp1
          · exact hb j (by omega))
        refine rk_iload dR_findStands_150 rfl ?_
        refine rk_iload_n dR_findStands_152 rfl ?_
        refine rk_icmp_ge 202 dR_findStands_153 (by decide) (fun q_153 => ?_) (fun q_153 => ?_)
        · exact absurd q_153 (nI_ge (by omega) (by omega))
        · refine rk_aload_n dR_findStands_156 rfl ?_
          refine rk_getf fR_17 dR_findStands_157 k.m rfl ?_
          refine rk_iload_n dR_findStands_160 rfl ?_
          refine rk_iald dR_findStands_161 k.kd (vp_in_nI (show n < 14 by omega) (by omega)) ?_
          rw [nI_clamp (show n < 2 ^ 31 by omega)]
          refine rk_if_eq 202 dR_findStands_162 (by decide) (fun q_162 => ?_) (fun q_162 => ?_)
          · exact absurd (e0.mp q_162) hk
          · refine rk_aload_n dR_findStands_165 rfl ?_
            refine rk_getf fR_64 dR_findStands_166 k.m rfl ?_
            refine rk_iload dR_findStands_169 rfl ?_
            refine rk_iald dR_findStands_171 k.st (vp_in_nI (show m < 14 by omega) (by omega)) ?_
            rw [nI_clamp (show m < 2 ^ 31 by omega), hz]
            refine rk_iload dR_findStands_172 rfl ?_
            refine rk_icmp_ne 196 dR_findStands_174 (by decide) (fun q_174 => ?_) (fun q_174 => ?_)
            · refine rk_iinc dR_findStands_196 rfl (inc1 m) (Nat.le_of_ble_eq_true rfl) ?_
              refine rk_goto 150 dR_findStands_199 (by decide) ?_
              exact nxt
            · refine rk_aload_n dR_findStands_177 rfl ?_
              refine rk_iload_n dR_findStands_178 rfl ?_
              refine rk_iload dR_findStands_179 rfl ?_
              refine rk_cvV (c_R_alike b A (X.wst (upd X.st n (nI n))) k S n m hn (by omega) hin hbd hS1 hSl) cR_146 dR_findStands_181 rfl lR_alike (Nat.le_of_ble_eq_true rfl) (Nat.le_of_ble_eq_true rfl) (Nat.le_of_ble_eq_true rfl) (Nat.le_of_ble_eq_true rfl) k.m ?_
              refine rk_if_eq 196 dR_findStands_184 (by decide) (fun q_184 => ?_) (fun q_184 => ?_)
              · refine rk_iinc dR_findStands_196 rfl (inc1 m) (Nat.le_of_ble_eq_true rfl) ?_
                refine rk_goto 150 dR_findStands_199 (by decide) ?_
                exact nxt
              · exact absurd (and2.mpr ⟨decide_eq_true (eSm.mp q_174), b2p' q_184⟩) hp
  have none0 : ∀ (a2 a3 : Int32), (X.N n).kd = 0 → ¬ idle X.N S n = true → rk_Run mR_findStands (2, 31, 0, 0) (rk_R0 (rv b A (X.wst (upd X.st n (nI (stOf X.N S n)))))) 150 [some (.ref (A 0)), some (.int (nI n)), some (.int a2), some (.int a3), some (.int (nI 0))] [] (rv b A (X.wst (upd X.st n (nI n)))) (0, 0) := by
    intro a2 a3 hk hi
    have est : stOf X.N S n = n := by
      unfold stOf
      rw [if_neg hi, if_pos hk]
    rw [est]
    refine rk_iload dR_findStands_150 rfl ?_
    refine rk_iload_n dR_findStands_152 rfl ?_
    refine rk_icmp_ge 202 dR_findStands_153 (by decide) (fun q_153 => ?_) (fun q_153 => ?_)
    · exact rk_ret rfl dR_findStands_202 ⟨(Nat.le_of_ble_eq_true rfl), (Nat.le_of_ble_eq_true rfl)⟩ (⟨rfl, rfl⟩)
    · refine rk_aload_n dR_findStands_156 rfl ?_
      refine rk_getf fR_17 dR_findStands_157 k.m rfl ?_
      refine rk_iload_n dR_findStands_160 rfl ?_
      refine rk_iald dR_findStands_161 k.kd (vp_in_nI (show n < 14 by omega) (by omega)) ?_
      rw [nI_clamp (show n < 2 ^ 31 by omega)]
      refine rk_if_eq 202 dR_findStands_162 (by decide) (fun q_162 => ?_) (fun q_162 => ?_)
      · exact rk_ret rfl dR_findStands_202 ⟨(Nat.le_of_ble_eq_true rfl), (Nat.le_of_ble_eq_true rfl)⟩ (⟨rfl, rfl⟩)
      · exact absurd (e0.mpr hk) q_162
  have go : ∀ (a2 a3 : Int32), ¬ idle X.N S n = true → rk_Run mR_findStands (2, 31, 0, 0) (rk_R0 (rv b A (X.wst (upd X.st n (nI (stOf X.N S n)))))) 150 [some (.ref (A 0)), some (.int (nI n)), some (.int a2), some (.int a3), some (.int (nI 0))] [] (rv b A (X.wst (upd X.st n (nI n)))) (0, 0) := by
    intro a2 a3 hi
    by_cases hk : (X.N n).kd = 0
    · exact none0 a2 a3 hk hi
    · exact loop a2 a3 n 0 (by omega) hi hk (fun j hj => by omega)
  cases ho : (X.N n).one with
  | none =>
    have hk0 : (X.N n).kd = 0 := by
      rcases hwf.2 with ⟨h, -⟩ | ⟨a, ⟨h, -⟩, -⟩ | ⟨a, c, ⟨h, -⟩, -⟩
      · exact h
      · rw [ho] at h; cases h
      · rw [ho] at h; cases h
    have hi : ¬ idle X.N S n = true := by unfold idle; rw [ho]; exact Bool.false_ne_true
    refine rk_Con.of [some (.ref (A 0)), some (.int (nI n)), none, none, none] rfl (Nat.le_of_ble_eq_true rfl) (by decide +kernel) ?_
    refine rk_aload_n dR_findStands_0 rfl ?_
    refine rk_aload_n dR_findStands_1 rfl ?_
    refine rk_getf fR_20 dR_findStands_2 k.m rfl ?_
    refine rk_iload_n dR_findStands_5 rfl ?_
    refine rk_iald dR_findStands_6 k.on (vp_in_nI (show n < 14 by omega) (by omega)) ?_
    rw [nI_clamp (show n < 2 ^ 31 by omega), ho]
    refine rk_cvV (c_R_standFor b A X k none (fun a ha => by cases ha)) cR_143 dR_findStands_7 rfl lR_standFor (Nat.le_of_ble_eq_true rfl) (Nat.le_of_ble_eq_true rfl) (Nat.le_of_ble_eq_true rfl) (Nat.le_of_ble_eq_true rfl) k.m ?_
    refine rk_istore_n dR_findStands_10 (Nat.le_of_ble_eq_true rfl) ?_
    refine rk_aload_n dR_findStands_11 rfl ?_
    refine rk_getf fR_64 dR_findStands_12 k.m rfl ?_
    refine rk_iload_n dR_findStands_15 rfl ?_
    refine rk_iload_n dR_findStands_16 rfl ?_
    refine rk_iast dR_findStands_17 k.st (vp_in_nI (show n < 14 by omega) (by omega)) ?_
    rw [k.ust]
    rw [nI_clamp (show n < 2 ^ 31 by omega)]
    refine rk_aload_n dR_findStands_18 rfl ?_
    refine rk_getf fR_17 dR_findStands_19 k.m rfl ?_
    refine rk_iload_n dR_findStands_22 rfl ?_
    refine rk_iald dR_findStands_23 k.kd (vp_in_nI (show n < 14 by omega) (by omega)) ?_
    rw [nI_clamp (show n < 2 ^ 31 by omega)]
    refine rk_bipush (v := 6) dR_findStands_24 (by decide) ?_
    refine rk_icmp_ne 57 dR_findStands_26 (by decide) (fun q_26 => ?_) (fun q_26 => ?_)
    · refine rk_iconst (v := 0) dR_findStands_57 (by decide) ?_
      refine rk_istore_n dR_findStands_58 (Nat.le_of_ble_eq_true rfl) ?_
      refine rk_iload_n dR_findStands_59 rfl ?_
      refine rk_aload_n dR_findStands_60 rfl ?_
      refine rk_getf fR_17 dR_findStands_61 k.m rfl ?_
      refine rk_iload_n dR_findStands_64 rfl ?_
      refine rk_iald dR_findStands_65 k.kd (vp_in_nI (show n < 14 by omega) (by omega)) ?_
      rw [nI_clamp (show n < 2 ^ 31 by omega)]
      refine rk_bipush (v := 9) dR_findStands_66 (by decide) ?_
      refine rk_icmp_ne 97 dR_findStands_68 (by decide) (fun q_68 => ?_) (fun q_68 => ?_)
      · refine rk_iconst (v := 0) dR_findStands_97 (by decide) ?_
        refine rk_ior dR_findStands_98 ?_
        refine rk_istore_n dR_findStands_99 (Nat.le_of_ble_eq_true rfl) ?_
        refine rk_iload_n dR_findStands_100 rfl ?_
        refine rk_aload_n dR_findStands_101 rfl ?_
        refine rk_getf fR_17 dR_findStands_102 k.m rfl ?_
        refine rk_iload_n dR_findStands_105 rfl ?_
        refine rk_iald dR_findStands_106 k.kd (vp_in_nI (show n < 14 by omega) (by omega)) ?_
        rw [nI_clamp (show n < 2 ^ 31 by omega)]
        refine rk_bipush (v := 10) dR_findStands_107 (by decide) ?_
        refine rk_icmp_ne 132 dR_findStands_109 (by decide) (fun q_109 => ?_) (fun q_109 => ?_)
        · refine rk_iconst (v := 0) dR_findStands_132 (by decide) ?_
          refine rk_ior dR_findStands_133 ?_
          refine rk_istore_n dR_findStands_134 (Nat.le_of_ble_eq_true rfl) ?_
          refine rk_iload_n dR_findStands_135 rfl ?_
          refine rk_if_eq 147 dR_findStands_136 (by decide) (fun q_136 => ?_) (fun q_136 => ?_)
          · refine rk_iconst (v := 0) dR_findStands_147 (by decide) ?_
            refine rk_istore dR_findStands_148 (Nat.le_of_ble_eq_true rfl) ?_
            exact go _ _ hi
          · exact absurd (by decide) q_136
        · exact absurd (e10.mp q_109) (by omega)
      · exact absurd (e9.mp q_68) (by omega)
    · exact absurd (e6.mp q_26) (by omega)
  | some a =>
    have ha := on1 a ho
    have hSa := hSl a ha
    have ea : X.st a = nI (S a) := hS a ha
    have bS := hbd (S a) (by omega)
    have bS1 : bdI ((X.wst (upd X.st n (nI n))).N (S a)) := bS
    have bn1 : bdI ((X.wst (upd X.st n (nI n))).N n) := bn
    have ec : nI (X.N n).c = nI (X.N (S a)).c ↔ (X.N n).c = (X.N (S a)).c := nI_eq (by have := bn.1.2.2.2.1; omega) (by have := bS.1.2.2.2.1; omega)
    have es := d_eq_iff (x := (X.N n).sc) (y := (X.N (S a)).sc) bn.2.1 bS.2.1
    unfold d_eq at es
    rw [decide_eq_decide] at es
    have eid : idle X.N S n = ((decide ((X.N n).kd = 6) && shq (X.N n) (X.N (S a))) || (decide ((X.N n).kd = 9) && decide ((X.N n).lo = -128) && decide ((X.N n).hi = 127)) || (decide ((X.N n).kd = 10) && decide ((X.N n).sc = (X.N (S a)).sc))) := by unfold idle; rw [ho]
    have yes : idle X.N S n = true → stOf X.N S n = S a := fun h => by unfold stOf; rw [if_pos h, ho]
    have T : ∀ (a3 : Int32), (a3 = 0 ↔ ¬ idle X.N S n = true) → rk_Run mR_findStands (2, 31, 0, 0) (rk_R0 (rv b A (X.wst (upd X.st n (nI (stOf X.N S n)))))) 135 [some (.ref (A 0)), some (.int (nI n)), some (.int (nI (S a))), some (.int a3), none] [] (rv b A (X.wst (upd X.st n (nI n)))) (0, 0) := by
      intro a3 h3
      refine rk_iload_n dR_findStands_135 rfl ?_
      refine rk_if_eq 147 dR_findStands_136 (by decide) (fun q_136 => ?_) (fun q_136 => ?_)
      · refine rk_iconst (v := 0) dR_findStands_147 (by decide) ?_
        refine rk_istore dR_findStands_148 (Nat.le_of_ble_eq_true rfl) ?_
        exact go _ _ (h3.mp q_136)
      · refine rk_aload_n dR_findStands_139 rfl ?_
        refine rk_getf fR_64 dR_findStands_140 k.m rfl ?_
        refine rk_iload_n dR_findStands_143 rfl ?_
        refine rk_iload_n dR_findStands_144 rfl ?_
        refine rk_iast dR_findStands_145 k.st (vp_in_nI (show n < 14 by omega) (by omega)) ?_
        rw [k.ust]
        exact rk_ret rfl dR_findStands_146 ⟨(Nat.le_of_ble_eq_true rfl), (Nat.le_of_ble_eq_true rfl)⟩ (⟨rfl, by rw [nI_clamp (show n < 2 ^ 31 by omega), yes (Decidable.not_not.mp (mt h3.mpr q_136))]; exact congrArg (fun f => rv b A (X.wst f)) upd_up2⟩)
    refine rk_Con.of [some (.ref (A 0)), some (.int (nI n)), none, none, none] rfl (Nat.le_of_ble_eq_true rfl) (by decide +kernel) ?_
    refine rk_aload_n dR_findStands_0 rfl ?_
    refine rk_aload_n dR_findStands_1 rfl ?_
    refine rk_getf fR_20 dR_findStands_2 k.m rfl ?_
    refine rk_iload_n dR_findStands_5 rfl ?_
    refine rk_iald dR_findStands_6 k.on (vp_in_nI (show n < 14 by omega) (by omega)) ?_
    rw [nI_clamp (show n < 2 ^ 31 by omega), ho]
    refine rk_cvV (c_R_standFor b A X k (some a) (fun z hz => by cases hz; omega)) cR_143 dR_findStands_7 rfl lR_standFor (Nat.le_of_ble_eq_true rfl) (Nat.le_of_ble_eq_true rfl) (Nat.le_of_ble_eq_true rfl) (Nat.le_of_ble_eq_true rfl) k.m ?_
    rw [show mnt X.st (some a) = nI (S a) from ea]
    refine rk_istore_n dR_findStands_10 (Nat.le_of_ble_eq_true rfl) ?_
    refine rk_aload_n dR_findStands_11 rfl ?_
    refine rk_getf fR_64 dR_findStands_12 k.m rfl ?_
    refine rk_iload_n dR_findStands_15 rfl ?_
    refine rk_iload_n dR_findStands_16 rfl ?_
    refine rk_iast dR_findStands_17 k.st (vp_in_nI (show n < 14 by omega) (by omega)) ?_
    rw [k.ust]
    rw [nI_clamp (show n < 2 ^ 31 by omega)]
    refine rk_lv [some (.ref (A 0)), some (.int (nI n)), some (.int (nI (S a))), none, none] ⟨rfl, rfl, rfl, trivial⟩ ?_
    by_cases k6 : (X.N n).kd = 6
    · have e1 : idle X.N S n = shq (X.N n) (X.N (S a)) := by rw [eid, k6]; simp
      refine rk_aload_n dR_findStands_18 rfl ?_
      refine rk_getf fR_17 dR_findStands_19 k.m rfl ?_
      refine rk_iload_n dR_findStands_22 rfl ?_
      refine rk_iald dR_findStands_23 k.kd (vp_in_nI (show n < 14 by omega) (by omega)) ?_
      rw [nI_clamp (show n < 2 ^ 31 by omega)]
      refine rk_bipush (v := 6) dR_findStands_24 (by decide) ?_
      refine rk_icmp_ne 57 dR_findStands_26 (by decide) (fun q_26 => ?_) (fun q_26 => ?_)
      · exact absurd (e6.mpr k6) q_26
      · refine rk_aload_n dR_findStands_29 rfl ?_
        refine rk_iload_n dR_findStands_30 rfl ?_
        refine rk_iload_n dR_findStands_31 rfl ?_
        refine rk_cvV (c_R_sameSize b A (X.wst (upd X.st n (nI n))) k n (S a) hn (by omega) bn1 bS1) cR_140 dR_findStands_32 rfl lR_sameSize (Nat.le_of_ble_eq_true rfl) (Nat.le_of_ble_eq_true rfl) (Nat.le_of_ble_eq_true rfl) (Nat.le_of_ble_eq_true rfl) k.m ?_
        refine rk_if_eq 57 dR_findStands_35 (by decide) (fun q_35 => ?_) (fun q_35 => ?_)
        · refine rk_iconst (v := 0) dR_findStands_57 (by decide) ?_
          refine rk_istore_n dR_findStands_58 (Nat.le_of_ble_eq_true rfl) ?_
          refine rk_iload_n dR_findStands_59 rfl ?_
          refine rk_aload_n dR_findStands_60 rfl ?_
          refine rk_getf fR_17 dR_findStands_61 k.m rfl ?_
          refine rk_iload_n dR_findStands_64 rfl ?_
          refine rk_iald dR_findStands_65 k.kd (vp_in_nI (show n < 14 by omega) (by omega)) ?_
          rw [nI_clamp (show n < 2 ^ 31 by omega)]
          refine rk_bipush (v := 9) dR_findStands_66 (by decide) ?_
          refine rk_icmp_ne 97 dR_findStands_68 (by decide) (fun q_68 => ?_) (fun q_68 => ?_)
          · refine rk_iconst (v := 0) dR_findStands_97 (by decide) ?_
            refine rk_ior dR_findStands_98 ?_
            refine rk_istore_n dR_findStands_99 (Nat.le_of_ble_eq_true rfl) ?_
            refine rk_iload_n dR_findStands_100 rfl ?_
            refine rk_aload_n dR_findStands_101 rfl ?_
            refine rk_getf fR_17 dR_findStands_102 k.m rfl ?_
            refine rk_iload_n dR_findStands_105 rfl ?_
            refine rk_iald dR_findStands_106 k.kd (vp_in_nI (show n < 14 by omega) (by omega)) ?_
            rw [nI_clamp (show n < 2 ^ 31 by omega)]
            refine rk_bipush (v := 10) dR_findStands_107 (by decide) ?_
            refine rk_icmp_ne 132 dR_findStands_109 (by decide) (fun q_109 => ?_) (fun q_109 => ?_)
            · refine rk_iconst (v := 0) dR_findStands_132 (by decide) ?_
              refine rk_ior dR_findStands_133 ?_
              refine rk_istore_n dR_findStands_134 (Nat.le_of_ble_eq_true rfl) ?_
              refine rk_lv [some (.ref (A 0)), some (.int (nI n)), some (.int (nI (S a))), some (.int _), none] ⟨rfl, rfl, rfl, rfl, trivial⟩ ?_
              refine T _ ?_
              rw [e1]
              unfold shq
              first | (have z : (decide ((X.N n).h = (X.N (S a)).h) && decide ((X.N n).w = (X.N (S a)).w)) = false := b2p q_35; rw [z]; exact ⟨fun _ => Bool.false_ne_true, fun _ => by decide⟩) | (have z : (decide ((X.N n).h = (X.N (S a)).h) && decide ((X.N n).w = (X.N (S a)).w)) = true := b2p' q_35; rw [z]; first | (rw [decide_eq_false (p := (X.N n).c = (X.N (S a)).c) (fun y => q_50 (ec.mpr y))]; exact ⟨fun _ => Bool.false_ne_true, fun _ => by decide⟩) | (rw [decide_eq_true (p := (X.N n).c = (X.N (S a)).c) (ec.mp q_50)]; exact ⟨fun y => absurd y (by decide), fun y => absurd rfl y⟩))
            · exact absurd (e10.mp q_109) (by omega)
          · exact absurd (e9.mp q_68) (by omega)
        · refine rk_aload_n dR_findStands_38 rfl ?_
          refine rk_getf fR_32 dR_findStands_39 k.m rfl ?_
          refine rk_iload_n dR_findStands_42 rfl ?_
          refine rk_iald dR_findStands_43 k.de (vp_in_nI (show n < 14 by omega) (by omega)) ?_
          rw [nI_clamp (show n < 2 ^ 31 by omega)]
          refine rk_aload_n dR_findStands_44 rfl ?_
          refine rk_getf fR_32 dR_findStands_45 k.m rfl ?_
          refine rk_iload_n dR_findStands_48 rfl ?_
          refine rk_iald dR_findStands_49 k.de (vp_in_nI (show S a < 14 by omega) (by omega)) ?_
          rw [nI_clamp (show S a < 2 ^ 31 by omega)]
          refine rk_icmp_ne 57 dR_findStands_50 (by decide) (fun q_50 => ?_) (fun q_50 => ?_)
          · refine rk_iconst (v := 0) dR_findStands_57 (by decide) ?_
            refine rk_istore_n dR_findStands_58 (Nat.le_of_ble_eq_true rfl) ?_
            refine rk_iload_n dR_findStands_59 rfl ?_
            refine rk_aload_n dR_findStands_60 rfl ?_
            refine rk_getf fR_17 dR_findStands_61 k.m rfl ?_
            refine rk_iload_n dR_findStands_64 rfl ?_
            refine rk_iald dR_findStands_65 k.kd (vp_in_nI (show n < 14 by omega) (by omega)) ?_
            rw [nI_clamp (show n < 2 ^ 31 by omega)]
            refine rk_bipush (v := 9) dR_findStands_66 (by decide) ?_
            refine rk_icmp_ne 97 dR_findStands_68 (by decide) (fun q_68 => ?_) (fun q_68 => ?_)
            · refine rk_iconst (v := 0) dR_findStands_97 (by decide) ?_
              refine rk_ior dR_findStands_98 ?_
              refine rk_istore_n dR_findStands_99 (Nat.le_of_ble_eq_true rfl) ?_
              refine rk_iload_n dR_findStands_100 rfl ?_
              refine rk_aload_n dR_findStands_101 rfl ?_
              refine rk_getf fR_17 dR_findStands_102 k.m rfl ?_
              refine rk_iload_n dR_findStands_105 rfl ?_
              refine rk_iald dR_findStands_106 k.kd (vp_in_nI (show n < 14 by omega) (by omega)) ?_
              rw [nI_clamp (show n < 2 ^ 31 by omega)]
              refine rk_bipush (v := 10) dR_findStands_107 (by decide) ?_
              refine rk_icmp_ne 132 dR_findStands_109 (by decide) (fun q_109 => ?_) (fun q_109 => ?_)
              · refine rk_iconst (v := 0) dR_findStands_132 (by decide) ?_
                refine rk_ior dR_findStands_133 ?_
                refine rk_istore_n dR_findStands_134 (Nat.le_of_ble_eq_true rfl) ?_
                refine rk_lv [some (.ref (A 0)), some (.int (nI n)), some (.int (nI (S a))), some (.int _), none] ⟨rfl, rfl, rfl, rfl, trivial⟩ ?_
                refine T _ ?_
                rw [e1]
                unfold shq
                first | (have z : (decide ((X.N n).h = (X.N (S a)).h) && decide ((X.N n).w = (X.N (S a)).w)) = false := b2p q_35; rw [z]; exact ⟨fun _ => Bool.false_ne_true, fun _ => by decide⟩) | (have z : (decide ((X.N n).h = (X.N (S a)).h) && decide ((X.N n).w = (X.N (S a)).w)) = true := b2p' q_35; rw [z]; first | (rw [decide_eq_false (p := (X.N n).c = (X.N (S a)).c) (fun y => q_50 (ec.mpr y))]; exact ⟨fun _ => Bool.false_ne_true, fun _ => by decide⟩) | (rw [decide_eq_true (p := (X.N n).c = (X.N (S a)).c) (ec.mp q_50)]; exact ⟨fun y => absurd y (by decide), fun y => absurd rfl y⟩))
              · exact absurd (e10.mp q_109) (by omega)
            · exact absurd (e9.mp q_68) (by omega)
          · refine rk_iconst (v := 1) dR_findStands_53 (by decide) ?_
            refine rk_goto 58 dR_findStands_54 (by decide) ?_
            refine rk_istore_n dR_findStands_58 (Nat.le_of_ble_eq_true rfl) ?_
            refine rk_iload_n dR_findStands_59 rfl ?_
            refine rk_aload_n dR_findStands_60 rfl ?_
            refine rk_getf fR_17 dR_findStands_61 k.m rfl ?_
            refine rk_iload_n dR_findStands_64 rfl ?_
            refine rk_iald dR_findStands_65 k.kd (vp_in_nI (show n < 14 by omega) (by omega)) ?_
            rw [nI_clamp (show n < 2 ^ 31 by omega)]
            refine rk_bipush (v := 9) dR_findStands_66 (by decide) ?_
            refine rk_icmp_ne 97 dR_findStands_68 (by decide) (fun q_68 => ?_) (fun q_68 => ?_)
            · refine rk_iconst (v := 0) dR_findStands_97 (by decide) ?_
              refine rk_ior dR_findStands_98 ?_
              refine rk_istore_n dR_findStands_99 (Nat.le_of_ble_eq_true rfl) ?_
              refine rk_iload_n dR_findStands_100 rfl ?_
              refine rk_aload_n dR_findStands_101 rfl ?_
              refine rk_getf fR_17 dR_findStands_102 k.m rfl ?_
              refine rk_iload_n dR_findStands_105 rfl ?_
              refine rk_iald dR_findStands_106 k.kd (vp_in_nI (show n < 14 by omega) (by omega)) ?_
              rw [nI_clamp (show n < 2 ^ 31 by omega)]
              refine rk_bipush (v := 10) dR_findStands_107 (by decide) ?_
              refine rk_icmp_ne 132 dR_findStands_109 (by decide) (fun q_109 => ?_) (fun q_109 => ?_)
              · refine rk_iconst (v := 0) dR_findStands_132 (by decide) ?_
                refine rk_ior dR_findStands_133 ?_
                refine rk_istore_n dR_findStands_134 (Nat.le_of_ble_eq_true rfl) ?_
                refine rk_lv [some (.ref (A 0)), some (.int (nI n)), some (.int (nI (S a))), some (.int _), none] ⟨rfl, rfl, rfl, rfl, trivial⟩ ?_
                refine T _ ?_
                rw [e1]
                unfold shq
                first | (have z : (decide ((X.N n).h = (X.N (S a)).h) && decide ((X.N n).w = (X.N (S a)).w)) = false := b2p q_35; rw [z]; exact ⟨fun _ => Bool.false_ne_true, fun _ => by decide⟩) | (have z : (decide ((X.N n).h = (X.N (S a)).h) && decide ((X.N n).w = (X.N (S a)).w)) = true := b2p' q_35; rw [z]; first | (rw [decide_eq_false (p := (X.N n).c = (X.N (S a)).c) (fun y => q_50 (ec.mpr y))]; exact ⟨fun _ => Bool.false_ne_true, fun _ => by decide⟩) | (rw [decide_eq_true (p := (X.N n).c = (X.N (S a)).c) (ec.mp q_50)]; exact ⟨fun y => absurd y (by decide), fun y => absurd rfl y⟩))
              · exact absurd (e10.mp q_109) (by omega)
            · exact absurd (e9.mp q_68) (by omega)
    · by_cases k9 : (X.N n).kd = 9
      · have e1 : idle X.N S n = (decide ((X.N n).lo = -128) && decide ((X.N n).hi = 127)) := by rw [eid, k9]; simp
        refine rk_aload_n dR_findStands_18 rfl ?_
        refine rk_getf fR_17 dR_findStands_19 k.m rfl ?_
        refine rk_iload_n dR_findStands_22 rfl ?_
        refine rk_iald dR_findStands_23 k.kd (vp_in_nI (show n < 14 by omega) (by omega)) ?_
        rw [nI_clamp (show n < 2 ^ 31 by omega)]
        refine rk_bipush (v := 6) dR_findStands_24 (by decide) ?_
        refine rk_icmp_ne 57 dR_findStands_26 (by decide) (fun q_26 => ?_) (fun q_26 => ?_)
        · refine rk_iconst (v := 0) dR_findStands_57 (by decide) ?_
          refine rk_istore_n dR_findStands_58 (Nat.le_of_ble_eq_true rfl) ?_
          refine rk_iload_n dR_findStands_59 rfl ?_
          refine rk_aload_n dR_findStands_60 rfl ?_
          refine rk_getf fR_17 dR_findStands_61 k.m rfl ?_
          refine rk_iload_n dR_findStands_64 rfl ?_
          refine rk_iald dR_findStands_65 k.kd (vp_in_nI (show n < 14 by omega) (by omega)) ?_
          rw [nI_clamp (show n < 2 ^ 31 by omega)]
          refine rk_bipush (v := 9) dR_findStands_66 (by decide) ?_
          refine rk_icmp_ne 97 dR_findStands_68 (by decide) (fun q_68 => ?_) (fun q_68 => ?_)
          · exact absurd (e9.mpr k9) q_68
          · refine rk_aload_n dR_findStands_71 rfl ?_
            refine rk_getf fR_48 dR_findStands_72 k.m rfl ?_
            refine rk_iload_n dR_findStands_75 rfl ?_
            refine rk_iald dR_findStands_76 k.lo (vp_in_nI (show n < 14 by omega) (by omega)) ?_
            rw [nI_clamp (show n < 2 ^ 31 by omega)]
            refine rk_bipush (v := -128) dR_findStands_77 (by decide) ?_
            refine rk_icmp_ne 97 dR_findStands_79 (by decide) (fun q_79 => ?_) (fun q_79 => ?_)
            · refine rk_iconst (v := 0) dR_findStands_97 (by decide) ?_
              refine rk_ior dR_findStands_98 ?_
              refine rk_istore_n dR_findStands_99 (Nat.le_of_ble_eq_true rfl) ?_
              refine rk_iload_n dR_findStands_100 rfl ?_
              refine rk_aload_n dR_findStands_101 rfl ?_
              refine rk_getf fR_17 dR_findStands_102 k.m rfl ?_
              refine rk_iload_n dR_findStands_105 rfl ?_
              refine rk_iald dR_findStands_106 k.kd (vp_in_nI (show n < 14 by omega) (by omega)) ?_
              rw [nI_clamp (show n < 2 ^ 31 by omega)]
              refine rk_bipush (v := 10) dR_findStands_107 (by decide) ?_
              refine rk_icmp_ne 132 dR_findStands_109 (by decide) (fun q_109 => ?_) (fun q_109 => ?_)
              · refine rk_iconst (v := 0) dR_findStands_132 (by decide) ?_
                refine rk_ior dR_findStands_133 ?_
                refine rk_istore_n dR_findStands_134 (Nat.le_of_ble_eq_true rfl) ?_
                refine rk_lv [some (.ref (A 0)), some (.int (nI n)), some (.int (nI (S a))), some (.int _), none] ⟨rfl, rfl, rfl, rfl, trivial⟩ ?_
                refine T _ ?_
                rw [e1]
                first | (rw [decide_eq_true (p := (X.N n).hi = 127) q_90, decide_eq_true (p := (X.N n).lo = -128) q_79]; exact ⟨fun y => absurd y (by decide), fun y => absurd rfl y⟩) | (rw [decide_eq_false (p := (X.N n).hi = 127) q_90, Bool.and_false]; exact ⟨fun _ => Bool.false_ne_true, fun _ => by decide⟩) | (rw [decide_eq_false (p := (X.N n).lo = -128) q_79]; exact ⟨fun _ => Bool.false_ne_true, fun _ => by decide⟩)
              · exact absurd (e10.mp q_109) (by omega)
            · refine rk_aload_n dR_findStands_82 rfl ?_
              refine rk_getf fR_51 dR_findStands_83 k.m rfl ?_
              refine rk_iload_n dR_findStands_86 rfl ?_
              refine rk_iald dR_findStands_87 k.to (vp_in_nI (show n < 14 by omega) (by omega)) ?_
              rw [nI_clamp (show n < 2 ^ 31 by omega)]
              refine rk_bipush (v := 127) dR_findStands_88 (by decide) ?_
              refine rk_icmp_ne 97 dR_findStands_90 (by decide) (fun q_90 => ?_) (fun q_90 => ?_)
              · refine rk_iconst (v := 0) dR_findStands_97 (by decide) ?_
                refine rk_ior dR_findStands_98 ?_
                refine rk_istore_n dR_findStands_99 (Nat.le_of_ble_eq_true rfl) ?_
                refine rk_iload_n dR_findStands_100 rfl ?_
                refine rk_aload_n dR_findStands_101 rfl ?_
                refine rk_getf fR_17 dR_findStands_102 k.m rfl ?_
                refine rk_iload_n dR_findStands_105 rfl ?_
                refine rk_iald dR_findStands_106 k.kd (vp_in_nI (show n < 14 by omega) (by omega)) ?_
                rw [nI_clamp (show n < 2 ^ 31 by omega)]
                refine rk_bipush (v := 10) dR_findStands_107 (by decide) ?_
                refine rk_icmp_ne 132 dR_findStands_109 (by decide) (fun q_109 => ?_) (fun q_109 => ?_)
                · refine rk_iconst (v := 0) dR_findStands_132 (by decide) ?_
                  refine rk_ior dR_findStands_133 ?_
                  refine rk_istore_n dR_findStands_134 (Nat.le_of_ble_eq_true rfl) ?_
                  refine rk_lv [some (.ref (A 0)), some (.int (nI n)), some (.int (nI (S a))), some (.int _), none] ⟨rfl, rfl, rfl, rfl, trivial⟩ ?_
                  refine T _ ?_
                  rw [e1]
                  first | (rw [decide_eq_true (p := (X.N n).hi = 127) q_90, decide_eq_true (p := (X.N n).lo = -128) q_79]; exact ⟨fun y => absurd y (by decide), fun y => absurd rfl y⟩) | (rw [decide_eq_false (p := (X.N n).hi = 127) q_90, Bool.and_false]; exact ⟨fun _ => Bool.false_ne_true, fun _ => by decide⟩) | (rw [decide_eq_false (p := (X.N n).lo = -128) q_79]; exact ⟨fun _ => Bool.false_ne_true, fun _ => by decide⟩)
                · exact absurd (e10.mp q_109) (by omega)
              · refine rk_iconst (v := 1) dR_findStands_93 (by decide) ?_
                refine rk_goto 98 dR_findStands_94 (by decide) ?_
                refine rk_ior dR_findStands_98 ?_
                refine rk_istore_n dR_findStands_99 (Nat.le_of_ble_eq_true rfl) ?_
                refine rk_iload_n dR_findStands_100 rfl ?_
                refine rk_aload_n dR_findStands_101 rfl ?_
                refine rk_getf fR_17 dR_findStands_102 k.m rfl ?_
                refine rk_iload_n dR_findStands_105 rfl ?_
                refine rk_iald dR_findStands_106 k.kd (vp_in_nI (show n < 14 by omega) (by omega)) ?_
                rw [nI_clamp (show n < 2 ^ 31 by omega)]
                refine rk_bipush (v := 10) dR_findStands_107 (by decide) ?_
                refine rk_icmp_ne 132 dR_findStands_109 (by decide) (fun q_109 => ?_) (fun q_109 => ?_)
                · refine rk_iconst (v := 0) dR_findStands_132 (by decide) ?_
                  refine rk_ior dR_findStands_133 ?_
                  refine rk_istore_n dR_findStands_134 (Nat.le_of_ble_eq_true rfl) ?_
                  refine rk_lv [some (.ref (A 0)), some (.int (nI n)), some (.int (nI (S a))), some (.int _), none] ⟨rfl, rfl, rfl, rfl, trivial⟩ ?_
                  refine T _ ?_
                  rw [e1]
                  first | (rw [decide_eq_true (p := (X.N n).hi = 127) q_90, decide_eq_true (p := (X.N n).lo = -128) q_79]; exact ⟨fun y => absurd y (by decide), fun y => absurd rfl y⟩) | (rw [decide_eq_false (p := (X.N n).hi = 127) q_90, Bool.and_false]; exact ⟨fun _ => Bool.false_ne_true, fun _ => by decide⟩) | (rw [decide_eq_false (p := (X.N n).lo = -128) q_79]; exact ⟨fun _ => Bool.false_ne_true, fun _ => by decide⟩)
                · exact absurd (e10.mp q_109) (by omega)
        · exact absurd (e6.mp q_26) k6
      · by_cases k10 : (X.N n).kd = 10
        · have e1 : idle X.N S n = decide ((X.N n).sc = (X.N (S a)).sc) := by rw [eid, k10]; simp
          refine rk_aload_n dR_findStands_18 rfl ?_
          refine rk_getf fR_17 dR_findStands_19 k.m rfl ?_
          refine rk_iload_n dR_findStands_22 rfl ?_
          refine rk_iald dR_findStands_23 k.kd (vp_in_nI (show n < 14 by omega) (by omega)) ?_
          rw [nI_clamp (show n < 2 ^ 31 by omega)]
          refine rk_bipush (v := 6) dR_findStands_24 (by decide) ?_
          refine rk_icmp_ne 57 dR_findStands_26 (by decide) (fun q_26 => ?_) (fun q_26 => ?_)
          · refine rk_iconst (v := 0) dR_findStands_57 (by decide) ?_
            refine rk_istore_n dR_findStands_58 (Nat.le_of_ble_eq_true rfl) ?_
            refine rk_iload_n dR_findStands_59 rfl ?_
            refine rk_aload_n dR_findStands_60 rfl ?_
            refine rk_getf fR_17 dR_findStands_61 k.m rfl ?_
            refine rk_iload_n dR_findStands_64 rfl ?_
            refine rk_iald dR_findStands_65 k.kd (vp_in_nI (show n < 14 by omega) (by omega)) ?_
            rw [nI_clamp (show n < 2 ^ 31 by omega)]
            refine rk_bipush (v := 9) dR_findStands_66 (by decide) ?_
            refine rk_icmp_ne 97 dR_findStands_68 (by decide) (fun q_68 => ?_) (fun q_68 => ?_)
            · refine rk_iconst (v := 0) dR_findStands_97 (by decide) ?_
              refine rk_ior dR_findStands_98 ?_
              refine rk_istore_n dR_findStands_99 (Nat.le_of_ble_eq_true rfl) ?_
              refine rk_iload_n dR_findStands_100 rfl ?_
              refine rk_aload_n dR_findStands_101 rfl ?_
              refine rk_getf fR_17 dR_findStands_102 k.m rfl ?_
              refine rk_iload_n dR_findStands_105 rfl ?_
              refine rk_iald dR_findStands_106 k.kd (vp_in_nI (show n < 14 by omega) (by omega)) ?_
              rw [nI_clamp (show n < 2 ^ 31 by omega)]
              refine rk_bipush (v := 10) dR_findStands_107 (by decide) ?_
              refine rk_icmp_ne 132 dR_findStands_109 (by decide) (fun q_109 => ?_) (fun q_109 => ?_)
              · exact absurd (e10.mpr k10) q_109
              · refine rk_aload_n dR_findStands_112 rfl ?_
                refine rk_getf fR_35 dR_findStands_113 k.m rfl ?_
                refine rk_iload_n dR_findStands_116 rfl ?_
                refine rk_dald dR_findStands_117 k.sc (vp_in_nI (show n < 14 by omega) (by omega)) ?_
                rw [nI_clamp (show n < 2 ^ 31 by omega)]
                refine rk_aload_n dR_findStands_118 rfl ?_
                refine rk_getf fR_35 dR_findStands_119 k.m rfl ?_
                refine rk_iload_n dR_findStands_122 rfl ?_
                refine rk_dald dR_findStands_123 k.sc (vp_in_nI (show S a < 14 by omega) (by omega)) ?_
                rw [nI_clamp (show S a < 2 ^ 31 by omega)]
                refine rk_dcmp dR_findStands_124 ?_
                refine rk_if_ne 132 dR_findStands_125 (by decide) (fun q_125 => ?_) (fun q_125 => ?_)
                · refine rk_iconst (v := 0) dR_findStands_132 (by decide) ?_
                  refine rk_ior dR_findStands_133 ?_
                  refine rk_istore_n dR_findStands_134 (Nat.le_of_ble_eq_true rfl) ?_
                  refine rk_lv [some (.ref (A 0)), some (.int (nI n)), some (.int (nI (S a))), some (.int _), none] ⟨rfl, rfl, rfl, rfl, trivial⟩ ?_
                  refine T _ ?_
                  rw [e1]
                  first | (rw [decide_eq_true (p := (X.N n).sc = (X.N (S a)).sc) (es.mp q_125)]; exact ⟨fun y => absurd y (by decide), fun y => absurd rfl y⟩) | (rw [decide_eq_false (p := (X.N n).sc = (X.N (S a)).sc) (fun y => q_125 (es.mpr y))]; exact ⟨fun _ => Bool.false_ne_true, fun _ => by decide⟩)
                · refine rk_iconst (v := 1) dR_findStands_128 (by decide) ?_
                  refine rk_goto 133 dR_findStands_129 (by decide) ?_
                  refine rk_ior dR_findStands_133 ?_
                  refine rk_istore_n dR_findStands_134 (Nat.le_of_ble_eq_true rfl) ?_
                  refine rk_lv [some (.ref (A 0)), some (.int (nI n)), some (.int (nI (S a))), some (.int _), none] ⟨rfl, rfl, rfl, rfl, trivial⟩ ?_
                  refine T _ ?_
                  rw [e1]
                  first | (rw [decide_eq_true (p := (X.N n).sc = (X.N (S a)).sc) (es.mp q_125)]; exact ⟨fun y => absurd y (by decide), fun y => absurd rfl y⟩) | (rw [decide_eq_false (p := (X.N n).sc = (X.N (S a)).sc) (fun y => q_125 (es.mpr y))]; exact ⟨fun _ => Bool.false_ne_true, fun _ => by decide⟩)
            · exact absurd (e9.mp q_68) k9
          · exact absurd (e6.mp q_26) k6
        · have e1 : idle X.N S n = false := by rw [eid, decide_eq_false k6, decide_eq_false k9, decide_eq_false k10]; rfl
          refine rk_aload_n dR_findStands_18 rfl ?_
          refine rk_getf fR_17 dR_findStands_19 k.m rfl ?_
          refine rk_iload_n dR_findStands_22 rfl ?_
          refine rk_iald dR_findStands_23 k.kd (vp_in_nI (show n < 14 by omega) (by omega)) ?_
          rw [nI_clamp (show n < 2 ^ 31 by omega)]
          refine rk_bipush (v := 6) dR_findStands_24 (by decide) ?_
          refine rk_icmp_ne 57 dR_findStands_26 (by decide) (fun q_26 => ?_) (fun q_26 => ?_)
          · refine rk_iconst (v := 0) dR_findStands_57 (by decide) ?_
            refine rk_istore_n dR_findStands_58 (Nat.le_of_ble_eq_true rfl) ?_
            refine rk_iload_n dR_findStands_59 rfl ?_
            refine rk_aload_n dR_findStands_60 rfl ?_
            refine rk_getf fR_17 dR_findStands_61 k.m rfl ?_
            refine rk_iload_n dR_findStands_64 rfl ?_
            refine rk_iald dR_findStands_65 k.kd (vp_in_nI (show n < 14 by omega) (by omega)) ?_
            rw [nI_clamp (show n < 2 ^ 31 by omega)]
            refine rk_bipush (v := 9) dR_findStands_66 (by decide) ?_
            refine rk_icmp_ne 97 dR_findStands_68 (by decide) (fun q_68 => ?_) (fun q_68 => ?_)
            · refine rk_iconst (v := 0) dR_findStands_97 (by decide) ?_
              refine rk_ior dR_findStands_98 ?_
              refine rk_istore_n dR_findStands_99 (Nat.le_of_ble_eq_true rfl) ?_
              refine rk_iload_n dR_findStands_100 rfl ?_
              refine rk_aload_n dR_findStands_101 rfl ?_
              refine rk_getf fR_17 dR_findStands_102 k.m rfl ?_
              refine rk_iload_n dR_findStands_105 rfl ?_
              refine rk_iald dR_findStands_106 k.kd (vp_in_nI (show n < 14 by omega) (by omega)) ?_
              rw [nI_clamp (show n < 2 ^ 31 by omega)]
              refine rk_bipush (v := 10) dR_findStands_107 (by decide) ?_
              refine rk_icmp_ne 132 dR_findStands_109 (by decide) (fun q_109 => ?_) (fun q_109 => ?_)
              · refine rk_iconst (v := 0) dR_findStands_132 (by decide) ?_
                refine rk_ior dR_findStands_133 ?_
                refine rk_istore_n dR_findStands_134 (Nat.le_of_ble_eq_true rfl) ?_
                refine rk_lv [some (.ref (A 0)), some (.int (nI n)), some (.int (nI (S a))), some (.int _), none] ⟨rfl, rfl, rfl, rfl, trivial⟩ ?_
                refine T _ ?_
                rw [e1]
                exact ⟨fun _ => Bool.false_ne_true, fun _ => by decide⟩
              · exact absurd (e10.mp q_109) k10
            · exact absurd (e9.mp q_68) k9
          · exact absurd (e6.mp q_26) k6
