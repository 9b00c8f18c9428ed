/-! what the machine's steps may change: the window, the scalers, the cells -/
def mv (h : rk_H) (M : mR) (w : wR) (p q : Int64 × Int32) (f : Nat → Int32) : rk_H := rk_up (rk_up (rk_up (rk_up h M.wi (oB 4 w.ls)) M.s1 (oB 3 (sL p.1 p.2))) M.s2 (oB 3 (sL q.1 q.2))) M.ce (iA 1792 f)
def mOK (h : rk_H) (a : Nat) (M : mR) (wt : Nat → Int32) : Prop :=
  (h a = some (oB 1 M.ls) ∧ h M.wc = some (iA 512 wt)) ∧ ((∃ w : wR, h M.wi = some (oB 4 w.ls)) ∧ (∃ (m : Int64) (s : Int32), h M.s1 = some (oB 3 (sL m s))) ∧ (∃ (m : Int64) (s : Int32), h M.s2 = some (oB 3 (sL m s))) ∧ ∃ f : Nat → Int32, h M.ce = some (iA 1792 f)) ∧ M.s1 ≠ M.s2
section MV
variable {h : rk_H} {a : Nat} {M : mR} {wt : Nat → Int32} {w : wR} {p q : Int64 × Int32} {f : Nat → Int32}
theorem mOK.ne (k : mOK h a M wt) : (M.wi ≠ M.s1 ∧ M.wi ≠ M.s2 ∧ M.wi ≠ M.ce) ∧ (M.s1 ≠ M.s2 ∧ M.s1 ≠ M.ce ∧ M.s2 ≠ M.ce) := by
  obtain ⟨⟨h1, h2⟩, ⟨⟨w0, k1⟩, ⟨m, s, k2⟩, ⟨m2, s2, k3⟩, f0, k4⟩, k5⟩ := k
  exact ⟨⟨rk_neq k1 k2 (by intro q; cases q), rk_neq k1 k3 (by intro q; cases q), rk_neq k1 k4 (by intro q; cases q)⟩, k5, rk_neq k2 k4 (by intro q; cases q), rk_neq k3 k4 (by intro q; cases q)⟩
/-- what is none of the four stays -/
theorem mOK.other (k : mOK h a M wt) {z : Nat} {e : rk_E} (hz : h z = some e) (h4 : ∀ l, e ≠ oB 4 l) (h3 : ∀ l, e ≠ oB 3 l) (h0 : ∀ f, e ≠ iA 1792 f) : mv h M w p q f z = some e := by
  obtain ⟨⟨h1, h2⟩, ⟨⟨w0, k1⟩, ⟨m, s, k2⟩, ⟨m2, s2, k3⟩, f0, k4⟩, k5⟩ := k
  exact rk_up_k (rk_neq hz k4 (h0 _)) (rk_up_k (rk_neq hz k3 (h3 _)) (rk_up_k (rk_neq hz k2 (h3 _)) (rk_up_k (rk_neq hz k1 (h4 _)) hz)))
theorem mOK.ma (k : mOK h a M wt) : mv h M w p q f a = some (oB 1 M.ls) := k.other k.1.1 (by intro l q; cases q) (by intro l q; cases q) (by intro l q; cases q)
theorem mOK.mwc (k : mOK h a M wt) : mv h M w p q f M.wc = some (iA 512 wt) := k.other k.1.2 (by intro l q; cases q) (by intro l q; cases q) (by intro l q; cases q)
theorem mOK.mn (k : mOK h a M wt) {b : Nat} {l : List Value} (hb : h b = some (oB 2 l)) : mv h M w p q f b = some (oB 2 l) := k.other hb (by intro l q; cases q) (by intro l q; cases q) (by intro l q; cases q)
theorem mOK.mg (k : mOK h a M wt) {b : Nat} {l : List Value} (hb : h b = some (oB 0 l)) : mv h M w p q f b = some (oB 0 l) := k.other hb (by intro l q; cases q) (by intro l q; cases q) (by intro l q; cases q)
theorem mOK.mi (k : mOK h a M wt) {b n : Nat} {l : Nat → Int32} (hb : h b = some (iA n l)) (hn : n ≠ 1792) : mv h M w p q f b = some (iA n l) := k.other hb (by intro l q; cases q) (by intro l q; cases q) (by intro l q; cases q; exact hn rfl)
theorem mOK.mq (k : mOK h a M wt) {b n : Nat} {l : Nat → Option Nat} (hb : h b = some (qA n l)) : mv h M w p q f b = some (qA n l) := k.other hb (by intro l q; cases q) (by intro l q; cases q) (by intro l q; cases q)
theorem mOK.mwi (k : mOK h a M wt) : mv h M w p q f M.wi = some (oB 4 w.ls) := rk_up_k k.ne.1.2.2 (rk_up_k k.ne.1.2.1 (rk_up_k k.ne.1.1 rk_up_s))
theorem mOK.ms1 (k : mOK h a M wt) : mv h M w p q f M.s1 = some (oB 3 (sL p.1 p.2)) := rk_up_k k.ne.2.2.1 (rk_up_k k.ne.2.1 rk_up_s)
theorem mOK.ms2 (k : mOK h a M wt) : mv h M w p q f M.s2 = some (oB 3 (sL q.1 q.2)) := rk_up_k k.ne.2.2.2 rk_up_s
theorem mv_ce : mv h M w p q f M.ce = some (iA 1792 f) := rk_up_s
theorem mv_uce {g : Nat → Int32} : rk_up (mv h M w p q f) M.ce (iA 1792 g) = mv h M w p q g := rk_up_up
theorem mOK.us2 (k : mOK h a M wt) {m : Int64} {s : Int32} : rk_up (mv h M w p q f) M.s2 (oB 3 (sL m s)) = mv h M w p (m, s) f := by
  unfold mv
  rw [rk_up_sw k.ne.2.2.2.symm, rk_up_up]
theorem mOK.us1 (k : mOK h a M wt) {m : Int64} {s : Int32} : rk_up (mv h M w p q f) M.s1 (oB 3 (sL m s)) = mv h M w (m, s) q f := by
  unfold mv
  rw [rk_up_sw k.ne.2.2.1.symm, rk_up_sw k.ne.2.1.symm, rk_up_up]
theorem mOK.uwi (k : mOK h a M wt) {w' : wR} : rk_up (mv h M w p q f) M.wi (oB 4 w'.ls) = mv h M w' p q f := by
  unfold mv
  rw [rk_up_sw k.ne.1.2.2.symm, rk_up_sw k.ne.1.2.1.symm, rk_up_sw k.ne.1.1.symm, rk_up_up]
theorem mOK.eq (k : mOK h a M wt) : ∃ (w : wR) (p q : Int64 × Int32) (f : Nat → Int32), h = mv h M w p q f := by
  obtain ⟨⟨h1, h2⟩, ⟨⟨w0, k1⟩, ⟨m, s, k2⟩, ⟨m2, s2, k3⟩, f0, k4⟩, k5⟩ := k
  refine ⟨w0, (m, s), (m2, s2), f0, ?_⟩
  unfold mv
  rw [rk_up_id k1, rk_up_id k2, rk_up_id k3, rk_up_id k4]
end MV
/-- a step that stores: what it leaves -/
def mP (h : rk_H) (M : mR) (F : Nat → Int32) : rk_P := fun r h' => r = .inl none ∧ ∃ (w : wR) (p q : Int64 × Int32), h' = mv h M w p q F
def wM (g : wP) (y x : Nat) : wR := ((nI g.k, nI (y * g.sp) - nI g.rb, nI (x * g.sp) - nI g.cb), (nI (w_r0 g y), nI (w_r1 g y), nI (w_c0 g x), nI (w_c1 g x)), (nI g.sp, nI g.oh, nI g.ow, nI g.rb, nI g.cb))
theorem wM_ls (g : wP) (y x : Nat) : (wM g y x).ls = wL g y x := rfl
/-- one cell of a window's node -/
def v_win (n o : aN) (g : wP) (wt : Nat → Int32) (r : UInt64) (fr y x ch : Nat) (f : Nat → Int32) : Int32 :=
  if n.kd = 1 then s_by r (16 * wt (n.off + n.c * (g.k * g.k * o.c) + ch) + itw g y x (g_all g y x fr n.off ch o.c o.w f wt) 0)
  else if n.kd = 2 then s_by r (16 * wt (n.off + n.c * (g.k * g.k) + ch) + itw g y x (fun r c s => s + f (fr + ((r * o.w + c) * o.c + ch)) * wt (n.off + w_tap g y x ch r c)) 0)
  else if n.kd = 7 then itw g y x (fun r c s => i_max s (f (fr + ((r * o.w + c) * o.c + ch)))) (-128)
  else s_avg (itw g y x (fun r c q => (q.1 + f (fr + ((r * o.w + c) * o.c + ch)), q.2 + 1)) ((0, 0) : Int32 × Nat)).1 (nI (itw g y x (fun r c q => (q.1 + f (fr + ((r * o.w + c) * o.c + ch)), q.2 + 1)) ((0, 0) : Int32 × Nat)).2)
/-- a node of the windows' kinds over its source -/
def winOK (n o : aN) (g : wP) (r : UInt64) (p : Int64 × Int32) : Prop :=
  (n.kd = 1 ∧ n.off + n.c * (g.k * g.k * o.c) + n.c ≤ 512 ∧ o.c ≤ 8 ∧ p = (s_mul r, s_sh r)) ∨ (n.kd = 2 ∧ n.c = o.c ∧ n.off + n.c * (g.k * g.k) + n.c ≤ 512 ∧ p = (s_mul r, s_sh r)) ∨ (n.kd = 7 ∧ n.c = o.c) ∨ (n.kd = 8 ∧ n.c = o.c)
theorem c_M_ofWindow (a b b2 : Nat) (M : mR) (n o : aN) (fe fe2 : Nat) (ra ro ra2 ro2 : UInt64) (g : wP) (y x fr ch : Nat) (f wt : Nat → Int32) (h : rk_H) (w : wR) (p q : Int64 × Int32) (k : mOK h a M wt) (hb : h b = some (oB 2 (nL n fe ra ro))) (hb2 : h b2 = some (oB 2 (nL o fe2 ra2 ro2))) (hg : w_ok g y x) (hoh : g.oh = o.h) (how : g.ow = o.w) (hch : ch < n.c) (h1 : fr + o.ce ≤ 1792) (hk : winOK n o g ra p) :
    rk_Con mM_ofWindow (2, 37, 0, 0) [.ref a, .ref b, .ref b2, .int (nI fr), .int (nI ch)] (mv h M (wM g y x) p q f) (rk_Rv (.int (v_win n o g wt ra fr y x ch f)) (mv h M (wM g y x) p q f)) := by
  have e1 : mv h M (wM g y x) p q f a = some (oB 1 M.ls) := k.ma
  have e2 : mv h M (wM g y x) p q f b = some (oB 2 (nL n fe ra ro)) := k.mn hb
  have e3 : mv h M (wM g y x) p q f b2 = some (oB 2 (nL o fe2 ra2 ro2)) := k.mn hb2
  have e4 : mv h M (wM g y x) p q f M.wi = some (oB 4 (wL g y x)) := k.mwi
  have e5 : mv h M (wM g y x) p q f M.ce = some (iA 1792 f) := mv_ce
  have e6 : mv h M (wM g y x) p q f M.wc = some (iA 512 wt) := k.mwc
  have e7 : mv h M (wM g y x) p q f M.s1 = some (oB 3 (sL p.1 p.2)) := k.ms1
  generalize mv h M (wM g y x) p q f = h' at e1 e2 e3 e4 e5 e6 e7 ⊢
  refine rk_Con.of [some (.ref a), some (.ref b), some (.ref b2), some (.int (nI fr)), some (.int (nI ch)), none, none] rfl (Nat.le_of_ble_eq_true rfl) (by decide +kernel) ?_
  rcases hk with ⟨hk, h2, hoc, hp⟩ | ⟨hk, hcc, h2, hp⟩ | ⟨hk, hcc⟩ | ⟨hk, hcc⟩
  · subst hp
    refine rk_aload_n dM_ofWindow_0 rfl ?_
    refine rk_getf fM_21 dM_ofWindow_1 (by first | exact e1 | exact e2 | exact e3 | exact e4 | exact e5 | exact e6 | exact e7 | assumption) rfl ?_
    refine rk_getf fM_171 dM_ofWindow_4 (by first | exact e1 | exact e2 | exact e3 | exact e4 | exact e5 | exact e6 | exact e7 | assumption) rfl ?_
    refine rk_aload_n dM_ofWindow_7 rfl ?_
    refine rk_getf fM_21 dM_ofWindow_8 (by first | exact e1 | exact e2 | exact e3 | exact e4 | exact e5 | exact e6 | exact e7 | assumption) rfl ?_
    refine rk_getf fM_171 dM_ofWindow_11 (by first | exact e1 | exact e2 | exact e3 | exact e4 | exact e5 | exact e6 | exact e7 | assumption) rfl ?_
    refine rk_imul dM_ofWindow_14 ?_
    rw [pk_mul]
    refine rk_istore dM_ofWindow_15 (Nat.le_of_ble_eq_true rfl) ?_
    refine rk_aload_n dM_ofWindow_17 rfl ?_
    refine rk_getf fM_115 dM_ofWindow_18 (by first | exact e1 | exact e2 | exact e3 | exact e4 | exact e5 | exact e6 | exact e7 | assumption) rfl ?_
    rw [hk]
    refine rk_lookup (off := 35) 56 dM_ofWindow_21 (by decide) (by decide) (by decide) ?_
    refine rk_aload_n dM_ofWindow_56 rfl ?_
    refine rk_aload_n dM_ofWindow_57 rfl ?_
    refine rk_iload dM_ofWindow_58 rfl ?_
    refine rk_aload_n dM_ofWindow_60 rfl ?_
    refine rk_getf fM_164 dM_ofWindow_61 (by first | exact e1 | exact e2 | exact e3 | exact e4 | exact e5 | exact e6 | exact e7 | assumption) rfl ?_
    refine rk_imul dM_ofWindow_64 ?_
    rw [pk_mul]
    refine rk_iload dM_ofWindow_65 rfl ?_
    refine rk_cvV (c_M_bias a b M n fe ra ro _ ch wt _ e1 e2 e6 (by omega)) cM_174 dM_ofWindow_67 rfl lM_bias (Nat.le_of_ble_eq_true rfl) (Nat.le_of_ble_eq_true rfl) (Nat.le_of_ble_eq_true rfl) (Nat.le_of_ble_eq_true rfl) (by first | exact e1 | exact e2 | exact e3 | exact e4 | exact e5 | exact e6 | exact e7 | assumption) ?_
    refine rk_aload_n dM_ofWindow_70 rfl ?_
    refine rk_aload_n dM_ofWindow_71 rfl ?_
    refine rk_aload_n dM_ofWindow_72 rfl ?_
    refine rk_iload_n dM_ofWindow_73 rfl ?_
    refine rk_iload dM_ofWindow_74 rfl ?_
    refine rk_cvV (c_M_sumAll a b b2 M n o fe fe2 ra ro ra2 ro2 g y x fr ch f wt _ e1 e2 e3 e4 e5 e6 hg hoh how hoc hch h1 (by rw [Nat.mul_assoc, Nat.mul_assoc, ← Nat.mul_assoc g.k]; omega)) cM_178 dM_ofWindow_76 rfl lM_sumAllChannels (Nat.le_of_ble_eq_true rfl) (Nat.le_of_ble_eq_true rfl) (Nat.le_of_ble_eq_true rfl) (Nat.le_of_ble_eq_true rfl) (by first | exact e1 | exact e2 | exact e3 | exact e4 | exact e5 | exact e6 | exact e7 | assumption) ?_
    refine rk_iadd dM_ofWindow_79 ?_
    refine rk_istore dM_ofWindow_80 (Nat.le_of_ble_eq_true rfl) ?_
    refine rk_aload_n dM_ofWindow_82 rfl ?_
    refine rk_getf fM_28 dM_ofWindow_83 (by first | exact e1 | exact e2 | exact e3 | exact e4 | exact e5 | exact e6 | exact e7 | assumption) rfl ?_
    refine rk_iload dM_ofWindow_86 rfl ?_
    refine rk_cvV (c_S_scaled M.s1 (s_mul ra) (s_sh ra) _ _ e7) cM_181 dM_ofWindow_88 rfl lS_scaled (Nat.le_of_ble_eq_true rfl) (Nat.le_of_ble_eq_true rfl) (Nat.le_of_ble_eq_true rfl) (Nat.le_of_ble_eq_true rfl) (by first | exact e1 | exact e2 | exact e3 | exact e4 | exact e5 | exact e6 | exact e7 | assumption) ?_
    refine rk_csV (c_M_cut _ _) cM_185 dM_ofWindow_91 rfl lM_cut (Nat.le_of_ble_eq_true rfl) (Nat.le_of_ble_eq_true rfl) (Nat.le_of_ble_eq_true rfl) (Nat.le_of_ble_eq_true rfl) ?_
    exact rk_iret rfl dM_ofWindow_94 ⟨(Nat.le_of_ble_eq_true rfl), (Nat.le_of_ble_eq_true rfl)⟩ (by unfold rk_Rv v_win; rw [if_pos hk]; exact ⟨rfl, rfl⟩)
  · subst hp
    refine rk_aload_n dM_ofWindow_0 rfl ?_
    refine rk_getf fM_21 dM_ofWindow_1 (by first | exact e1 | exact e2 | exact e3 | exact e4 | exact e5 | exact e6 | exact e7 | assumption) rfl ?_
    refine rk_getf fM_171 dM_ofWindow_4 (by first | exact e1 | exact e2 | exact e3 | exact e4 | exact e5 | exact e6 | exact e7 | assumption) rfl ?_
    refine rk_aload_n dM_ofWindow_7 rfl ?_
    refine rk_getf fM_21 dM_ofWindow_8 (by first | exact e1 | exact e2 | exact e3 | exact e4 | exact e5 | exact e6 | exact e7 | assumption) rfl ?_
    refine rk_getf fM_171 dM_ofWindow_11 (by first | exact e1 | exact e2 | exact e3 | exact e4 | exact e5 | exact e6 | exact e7 | assumption) rfl ?_
    refine rk_imul dM_ofWindow_14 ?_
    rw [pk_mul]
    refine rk_istore dM_ofWindow_15 (Nat.le_of_ble_eq_true rfl) ?_
    refine rk_aload_n dM_ofWindow_17 rfl ?_
    refine rk_getf fM_115 dM_ofWindow_18 (by first | exact e1 | exact e2 | exact e3 | exact e4 | exact e5 | exact e6 | exact e7 | assumption) rfl ?_
    rw [hk]
    refine rk_lookup (off := 74) 95 dM_ofWindow_21 (by decide) (by decide) (by decide) ?_
    refine rk_aload_n dM_ofWindow_95 rfl ?_
    refine rk_aload_n dM_ofWindow_96 rfl ?_
    refine rk_iload dM_ofWindow_97 rfl ?_
    refine rk_iload dM_ofWindow_99 rfl ?_
    refine rk_cvV (c_M_bias a b M n fe ra ro _ ch wt _ e1 e2 e6 (by omega)) cM_174 dM_ofWindow_101 rfl lM_bias (Nat.le_of_ble_eq_true rfl) (Nat.le_of_ble_eq_true rfl) (Nat.le_of_ble_eq_true rfl) (Nat.le_of_ble_eq_true rfl) (by first | exact e1 | exact e2 | exact e3 | exact e4 | exact e5 | exact e6 | exact e7 | assumption) ?_
    refine rk_aload_n dM_ofWindow_104 rfl ?_
    refine rk_aload_n dM_ofWindow_105 rfl ?_
    refine rk_aload_n dM_ofWindow_106 rfl ?_
    refine rk_iload_n dM_ofWindow_107 rfl ?_
    refine rk_iload dM_ofWindow_108 rfl ?_
    refine rk_cvV (c_M_sumOne a b b2 M n o fe fe2 ra ro ra2 ro2 g y x fr ch f wt _ e1 e2 e3 e4 e5 e6 hg hoh how (by omega) h1 (by rw [Nat.mul_assoc, ← hcc]; omega)) cM_189 dM_ofWindow_110 rfl lM_sumOneChannel (Nat.le_of_ble_eq_true rfl) (Nat.le_of_ble_eq_true rfl) (Nat.le_of_ble_eq_true rfl) (Nat.le_of_ble_eq_true rfl) (by first | exact e1 | exact e2 | exact e3 | exact e4 | exact e5 | exact e6 | exact e7 | assumption) ?_
    refine rk_iadd dM_ofWindow_113 ?_
    refine rk_istore dM_ofWindow_114 (Nat.le_of_ble_eq_true rfl) ?_
    refine rk_aload_n dM_ofWindow_116 rfl ?_
    refine rk_getf fM_28 dM_ofWindow_117 (by first | exact e1 | exact e2 | exact e3 | exact e4 | exact e5 | exact e6 | exact e7 | assumption) rfl ?_
    refine rk_iload dM_ofWindow_120 rfl ?_
    refine rk_cvV (c_S_scaled M.s1 (s_mul ra) (s_sh ra) _ _ e7) cM_181 dM_ofWindow_122 rfl lS_scaled (Nat.le_of_ble_eq_true rfl) (Nat.le_of_ble_eq_true rfl) (Nat.le_of_ble_eq_true rfl) (Nat.le_of_ble_eq_true rfl) (by first | exact e1 | exact e2 | exact e3 | exact e4 | exact e5 | exact e6 | exact e7 | assumption) ?_
    refine rk_csV (c_M_cut _ _) cM_185 dM_ofWindow_125 rfl lM_cut (Nat.le_of_ble_eq_true rfl) (Nat.le_of_ble_eq_true rfl) (Nat.le_of_ble_eq_true rfl) (Nat.le_of_ble_eq_true rfl) ?_
    exact rk_iret rfl dM_ofWindow_128 ⟨(Nat.le_of_ble_eq_true rfl), (Nat.le_of_ble_eq_true rfl)⟩ (by unfold rk_Rv v_win; rw [if_neg (by omega), if_pos hk]; exact ⟨rfl, rfl⟩)
  · refine rk_aload_n dM_ofWindow_0 rfl ?_
    refine rk_getf fM_21 dM_ofWindow_1 (by first | exact e1 | exact e2 | exact e3 | exact e4 | exact e5 | exact e6 | exact e7 | assumption) rfl ?_
    refine rk_getf fM_171 dM_ofWindow_4 (by first | exact e1 | exact e2 | exact e3 | exact e4 | exact e5 | exact e6 | exact e7 | assumption) rfl ?_
    refine rk_aload_n dM_ofWindow_7 rfl ?_
    refine rk_getf fM_21 dM_ofWindow_8 (by first | exact e1 | exact e2 | exact e3 | exact e4 | exact e5 | exact e6 | exact e7 | assumption) rfl ?_
    refine rk_getf fM_171 dM_ofWindow_11 (by first | exact e1 | exact e2 | exact e3 | exact e4 | exact e5 | exact e6 | exact e7 | assumption) rfl ?_
    refine rk_imul dM_ofWindow_14 ?_
    rw [pk_mul]
    refine rk_istore dM_ofWindow_15 (Nat.le_of_ble_eq_true rfl) ?_
    refine rk_aload_n dM_ofWindow_17 rfl ?_
    refine rk_getf fM_115 dM_ofWindow_18 (by first | exact e1 | exact e2 | exact e3 | exact e4 | exact e5 | exact e6 | exact e7 | assumption) rfl ?_
    rw [hk]
    refine rk_lookup (off := 108) 129 dM_ofWindow_21 (by decide) (by decide) (by decide) ?_
    refine rk_aload_n dM_ofWindow_129 rfl ?_
    refine rk_aload_n dM_ofWindow_130 rfl ?_
    refine rk_iload_n dM_ofWindow_131 rfl ?_
    refine rk_iload dM_ofWindow_132 rfl ?_
    refine rk_iadd dM_ofWindow_134 ?_
    rw [nI_add]
    refine rk_cvV (c_M_greatest a b2 M o fe2 ra2 ro2 g y x fr ch f _ e1 e3 e4 e5 hg hoh how (by omega) h1) cM_192 dM_ofWindow_135 rfl lM_greatest (Nat.le_of_ble_eq_true rfl) (Nat.le_of_ble_eq_true rfl) (Nat.le_of_ble_eq_true rfl) (Nat.le_of_ble_eq_true rfl) (by first | exact e1 | exact e2 | exact e3 | exact e4 | exact e5 | exact e6 | exact e7 | assumption) ?_
    exact rk_iret rfl dM_ofWindow_138 ⟨(Nat.le_of_ble_eq_true rfl), (Nat.le_of_ble_eq_true rfl)⟩ (by unfold rk_Rv v_win; rw [if_neg (by omega), if_neg (by omega), if_pos hk]; exact ⟨rfl, rfl⟩)
  · refine rk_aload_n dM_ofWindow_0 rfl ?_
    refine rk_getf fM_21 dM_ofWindow_1 (by first | exact e1 | exact e2 | exact e3 | exact e4 | exact e5 | exact e6 | exact e7 | assumption) rfl ?_
    refine rk_getf fM_171 dM_ofWindow_4 (by first | exact e1 | exact e2 | exact e3 | exact e4 | exact e5 | exact e6 | exact e7 | assumption) rfl ?_
    refine rk_aload_n dM_ofWindow_7 rfl ?_
    refine rk_getf fM_21 dM_ofWindow_8 (by first | exact e1 | exact e2 | exact e3 | exact e4 | exact e5 | exact e6 | exact e7 | assumption) rfl ?_
    refine rk_getf fM_171 dM_ofWindow_11 (by first | exact e1 | exact e2 | exact e3 | exact e4 | exact e5 | exact e6 | exact e7 | assumption) rfl ?_
    refine rk_imul dM_ofWindow_14 ?_
    rw [pk_mul]
    refine rk_istore dM_ofWindow_15 (Nat.le_of_ble_eq_true rfl) ?_
    refine rk_aload_n dM_ofWindow_17 rfl ?_
    refine rk_getf fM_115 dM_ofWindow_18 (by first | exact e1 | exact e2 | exact e3 | exact e4 | exact e5 | exact e6 | exact e7 | assumption) rfl ?_
    rw [hk]
    refine rk_lookup (off := 118) 139 dM_ofWindow_21 (by decide) (by decide) (by decide) ?_
    refine rk_aload_n dM_ofWindow_139 rfl ?_
    refine rk_aload_n dM_ofWindow_140 rfl ?_
    refine rk_iload_n dM_ofWindow_141 rfl ?_
    refine rk_iload dM_ofWindow_142 rfl ?_
    refine rk_iadd dM_ofWindow_144 ?_
    rw [nI_add]
    refine rk_cvV (c_M_average a b2 M o fe2 ra2 ro2 g y x fr ch f _ e1 e3 e4 e5 hg hoh how (by omega) h1) cM_196 dM_ofWindow_145 rfl lM_average (Nat.le_of_ble_eq_true rfl) (Nat.le_of_ble_eq_true rfl) (Nat.le_of_ble_eq_true rfl) (Nat.le_of_ble_eq_true rfl) (by first | exact e1 | exact e2 | exact e3 | exact e4 | exact e5 | exact e6 | exact e7 | assumption) ?_
    exact rk_iret rfl dM_ofWindow_148 ⟨(Nat.le_of_ble_eq_true rfl), (Nat.le_of_ble_eq_true rfl)⟩ (by unfold rk_Rv v_win; rw [if_neg (by omega), if_neg (by omega), if_neg (by omega)]; exact ⟨rfl, rfl⟩)
