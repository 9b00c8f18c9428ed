/-! Machine.slide -/
def z_size (co : Nat) : Nat := 1 + co % 3
def z_step (co : Nat) : Nat := 1 + co / 3 % 2
def z_bef (k sp p l : Nat) : Nat := ((p - 1) * sp + k - l) / 2
def gOf (n o : aN) : wP := (z_size n.co, z_step n.co, z_bef (z_size n.co) (z_step n.co) n.h o.h, z_bef (z_size n.co) (z_step n.co) n.w o.w, o.h, o.w)
theorem z_size_i {co : Nat} (h : co < 2 ^ 31) : w_size (nI co) = nI (z_size co) := by
  unfold w_size i_mod z_size
  rw [show (3 : Int32) = nI 3 from rfl, pk_rem h (by omega) (by omega), show (1 : Int32) = nI 1 from rfl, nI_add]
theorem z_step_i {co : Nat} (h : co < 2 ^ 31) : w_step (nI co) = nI (z_step co) := by
  unfold w_step i_mod z_step
  rw [show (3 : Int32) = nI 3 from rfl, pk_div h (by omega) (by omega), show (2 : Int32) = nI 2 from rfl, pk_rem (by omega) (by omega) (by omega), show (1 : Int32) = nI 1 from rfl, nI_add]
theorem i_max0 {a b : Nat} (ha : a < 2 ^ 30) (hb : b < 2 ^ 30) : i_max (nI a - nI b) 0 = nI (a - b) := by
  unfold i_max
  by_cases h : a < b
  · rw [if_pos (pk_sneg hb h), show a - b = 0 by omega]; rfl
  · rw [pk_sub (by omega), if_neg (nI_pos (by omega))]
theorem i_minN {a b : Nat} (ha : a < 2 ^ 31) (hb : b < 2 ^ 31) : i_min (nI a) (nI b) = nI (min a b) := by
  unfold i_min
  by_cases h : b < a
  · rw [if_pos (nI_lt h ha), Nat.min_eq_right (by omega)]
  · rw [if_neg (nI_nlt (by omega) hb), Nat.min_eq_left (by omega)]
theorem z_bef_i {k sp p l : Nat} (hp : 1 ≤ p) (h1 : (p - 1) * sp + k < 2 ^ 30) (h2 : l < 2 ^ 30) : w_bef (nI k) (nI sp) (nI p) (nI l) = nI (z_bef k sp p l) := by
  unfold w_bef z_bef
  rw [show (1 : Int32) = nI 1 from rfl, pk_sub hp, pk_mul, nI_add, i_max0 h1 h2, show (2 : Int32) = nI 2 from rfl, pk_div (by omega) (by omega) (by omega)]
theorem nI_s4 {a b c : Nat} (h : b ≤ a + c) : nI a - nI b + nI c = nI (a + c - b) := by
  rw [← pk_sub h, ← nI_add]
  simp only [Int32.sub_eq_add_neg]
  rw [Int32.add_assoc, Int32.add_comm (-nI b), ← Int32.add_assoc]
/-- a window that was laid -/
def wfit (w : wR) (g : wP) : Prop := w.k = nI g.k ∧ w.sp = nI g.sp ∧ w.rs = nI g.oh ∧ w.cs = nI g.ow ∧ w.rb = nI g.rb ∧ w.cb = nI g.cb
theorem wfit_M (g : wP) (y x : Nat) : wfit (wM g y x) g := ⟨rfl, rfl, rfl, rfl, rfl, rfl⟩
theorem wfit.mov {w : wR} {g : wP} (k : wfit w g) {y x : Nat} (h1 : g.rb ≤ y * g.sp + g.k) (h2 : g.cb ≤ x * g.sp + g.k) (h3 : y * g.sp + g.k < 2 ^ 30) (h4 : x * g.sp + g.k < 2 ^ 30) (h5 : g.oh < 2 ^ 30) (h6 : g.ow < 2 ^ 30) : w_mov w (nI y) (nI x) = wM g y x := by
  obtain ⟨k1, k2, k3, k4, k5, k6⟩ := k
  unfold w_mov wM w_r0 w_r1 w_c0 w_c1
  rw [k1, k2, k3, k4, k5, k6, pk_mul, pk_mul, i_max0 (by omega) (by omega), i_max0 (by omega) (by omega), nI_s4 h1, nI_s4 h2, i_minN (by omega) (by omega), i_minN (by omega) (by omega)]
/-- a node of the windows' kinds lies well over its source -/
def winG0 (n o : aN) : Prop := (n.co < 12 ∧ 1 ≤ n.h ∧ 1 ≤ n.w ∧ n.h ≤ 4 ∧ n.w ≤ 4) ∧ (n.h - 1) * z_step n.co < o.h ∧ (n.w - 1) * z_step n.co < o.w ∧ o.h ≤ 4 ∧ o.w ≤ 4
theorem winG0.lay {n o : aN} (k : winG0 n o) (w : wR) (fe fe2 : Nat) (ra ro ra2 ro2 : UInt64) : wfit (w_lay w (nM n fe ra ro).co (nM n fe ra ro).h (nM n fe ra ro).w (nM o fe2 ra2 ro2).h (nM o fe2 ra2 ro2).w) (gOf n o) := by
  obtain ⟨⟨h1, h2, h3, h4, h5⟩, h6, h7, h8, h9⟩ := k
  have hsz : z_size n.co ≤ 3 := by unfold z_size; omega
  refine ⟨z_size_i (by omega), z_step_i (by omega), rfl, rfl, ?_, ?_⟩
  · show w_bef (w_size (nI n.co)) (w_step (nI n.co)) (nI n.h) (nI o.h) = _
    rw [z_size_i (by omega), z_step_i (by omega), z_bef_i h2 (by omega) (by omega)]
    rfl
  · show w_bef (w_size (nI n.co)) (w_step (nI n.co)) (nI n.w) (nI o.w) = _
    rw [z_size_i (by omega), z_step_i (by omega), z_bef_i h3 (by omega) (by omega)]
    rfl
theorem winG0.at {n o : aN} (k : winG0 n o) {y x : Nat} (hy : y < n.h) (hx : x < n.w) : ((gOf n o).rb ≤ y * (gOf n o).sp + (gOf n o).k ∧ (gOf n o).cb ≤ x * (gOf n o).sp + (gOf n o).k) ∧ (y * (gOf n o).sp + (gOf n o).k < 100 ∧ x * (gOf n o).sp + (gOf n o).k < 100) ∧ w_ok (gOf n o) y x := by
  obtain ⟨⟨h1, h2, h3, h4, h5⟩, h6, h7, h8, h9⟩ := k
  have hsz : z_size n.co ≤ 3 := by unfold z_size; omega
  have hs1 : 1 ≤ z_size n.co := by unfold z_size; omega
  have a1 : y * z_step n.co ≤ (n.h - 1) * z_step n.co := Nat.mul_le_mul_right _ (by omega)
  have a2 : x * z_step n.co ≤ (n.w - 1) * z_step n.co := Nat.mul_le_mul_right _ (by omega)
  unfold w_ok w_r0 w_r1 w_c0 w_c1 gOf wP.k wP.sp wP.rb wP.cb wP.oh wP.ow z_bef
  dsimp only
  generalize z_size n.co = K at *
  generalize hA : (n.h - 1) * z_step n.co = A at *
  generalize hB : (n.w - 1) * z_step n.co = B at *
  generalize hC : y * z_step n.co = C at *
  generalize hD : x * z_step n.co = D at *
  omega
/-- the cells of a window's node -/
def G_win (n o : aN) (wt : Nat → Int32) (r : UInt64) (fr : Nat) (i : Nat) (f : Nat → Int32) : Int32 := v_win n o (gOf n o) wt r fr (i / n.c / n.w) (i / n.c % n.w) (i % n.c) f
theorem G_win_at {n o : aN} {wt : Nat → Int32} {r : UInt64} {fr : Nat} {y x c : Nat} (hx : x < n.w) (hc : c < n.c) (f : Nat → Int32) : G_win n o wt r fr ((y * n.w + x) * n.c + c) f = v_win n o (gOf n o) wt r fr y x c f := by
  unfold G_win
  have e1 : ((y * n.w + x) * n.c + c) / n.c = y * n.w + x := by rw [Nat.add_comm, Nat.add_mul_div_right _ _ (by omega), Nat.div_eq_of_lt hc]; omega
  have e2 : ((y * n.w + x) * n.c + c) % n.c = c := by rw [Nat.add_comm, Nat.add_mul_mod_self_right, Nat.mod_eq_of_lt hc]
  have e3 : (y * n.w + x) / n.w = y := by rw [Nat.add_comm, Nat.add_mul_div_right _ _ (by omega), Nat.div_eq_of_lt hx]; omega
  have e4 : (y * n.w + x) % n.w = x := by rw [Nat.add_comm, Nat.add_mul_mod_self_right, Nat.mod_eq_of_lt hx]
  rw [e1, e2, e3, e4]
theorem mOK.us1T {h : rk_H} {a : Nat} {M : mR} {wt : Nat → Int32} {w : wR} {p q : Int64 × Int32} {f : Nat → Int32} (k : mOK h a M wt) {m : Int64} {s : Int32} : rk_up (mv h M w p q f) M.s1 (oB 3 [.long m, .int s]) = mv h M w (m, s) q f := k.us1
def winK (n o : aN) (r : UInt64) : Prop :=
  (n.kd = 1 ∧ n.off + n.c * ((gOf n o).k * (gOf n o).k * o.c) + n.c ≤ 512 ∧ o.c ≤ 8 ∧ d_good r = true) ∨ (n.kd = 2 ∧ n.c = o.c ∧ n.off + n.c * ((gOf n o).k * (gOf n o).k) + n.c ≤ 512 ∧ d_good r = true) ∨ (n.kd = 7 ∧ n.c = o.c) ∨ (n.kd = 8 ∧ n.c = o.c)
theorem c_M_slide (a b b2 : Nat) (M : mR) (n o : aN) (fe fe2 : Nat) (ra ro ra2 ro2 : UInt64) (fr to : Nat) (f wt : Nat → Int32) (h : rk_H) (w : wR) (p q : Int64 × Int32) (k : mOK h a M wt) (hb : h b = some (oB 2 (nL n fe ra ro))) (hb2 : h b2 = some (oB 2 (nL o fe2 ra2 ro2))) (hG : winG0 n o) (hnc : n.c ≤ 8) (h1 : fr + o.ce ≤ 1792) (h2 : to + n.ce ≤ 1792) (hk : winK n o ra) :
    rk_Con mM_slide (3, 57, 0, 0) [.ref a, .ref b, .ref b2, .int (nI fr), .int (nI to)] (mv h M w p q f) (mP h M (itf (G_win n o wt ra fr) to n.ce f)) := by
  have hbw : b ≠ M.wi := by
    obtain ⟨w0, kw⟩ := k.2.1.1
    exact rk_neq hb kw (by intro q; cases q)
  have hb2w : b2 ≠ M.wi := by
    obtain ⟨w0, kw⟩ := k.2.1.1
    exact rk_neq hb2 kw (by intro q; cases q)
  have loop : ∀ (p : Int64 × Int32), winOK n o (gOf n o) ra p → ∀ (k1 y I : Nat) (w : wR), y + k1 = n.h → I = y * n.w * n.c → wfit w (gOf n o) → rk_Run mM_slide (3, 57, 0, 0) (mP h M (itf (G_win n o wt ra fr) to n.ce f)) 34 [some (.ref a), some (.ref b), some (.ref b2), some (.int (nI fr)), some (.int (nI to)), some (.int (nI (to + I))), some (.int (nI y)), none, none] [] (mv h M w p q (itf (G_win n o wt ra fr) to I f)) (0, 0) := by
    intro p hp k1
    induction k1 with
    | zero =>
      intro y I w hy hI hw
      have hy : y = n.h := by omega
      subst hy
      subst hI
      refine rk_iload dM_slide_34 rfl ?_
      refine rk_aload_n dM_slide_36 rfl ?_
      refine rk_getf fM_154 dM_slide_37 (by first | exact k.ma | exact k.mn hb | exact k.mn hb2 | exact k.mwi | exact mv_ce | exact k.ms1 | assumption) rfl ?_
      refine rk_icmp_ge 115 dM_slide_40 (by decide) (fun q_40 => ?_) (fun q_40 => ?_)
      · exact rk_ret rfl dM_slide_115 ⟨(Nat.le_of_ble_eq_true rfl), (Nat.le_of_ble_eq_true rfl)⟩ (⟨rfl, w, p, q, rfl⟩)
      · exact absurd (nI_le (Nat.le_refl _) (by have := hG.1; omega)) q_40
    | succ k1 ih =>
      intro y I w hy hI hw
      have lpx : ∀ (k2 x I : Nat) (w : wR), x + k2 = n.w → I = (y * n.w + x) * n.c → wfit w (gOf n o) → rk_Run mM_slide (3, 57, 0, 0) (mP h M (itf (G_win n o wt ra fr) to n.ce f)) 46 [some (.ref a), some (.ref b), some (.ref b2), some (.int (nI fr)), some (.int (nI to)), some (.int (nI (to + I))), some (.int (nI y)), some (.int (nI x)), none] [] (mv h M w p q (itf (G_win n o wt ra fr) to I f)) (0, 0) := by
        intro k2
        induction k2 with
        | zero =>
          intro x I w hx hI hw
          have hx : x = n.w := by omega
          subst hx
          refine rk_iload dM_slide_46 rfl ?_
          refine rk_aload_n dM_slide_48 rfl ?_
          refine rk_getf fM_157 dM_slide_49 (by first | exact k.ma | exact k.mn hb | exact k.mn hb2 | exact k.mwi | exact mv_ce | exact k.ms1 | assumption) rfl ?_
          refine rk_icmp_ge 109 dM_slide_52 (by decide) (fun q_52 => ?_) (fun q_52 => ?_)
          · refine rk_iinc dM_slide_109 rfl (inc1 y) (Nat.le_of_ble_eq_true rfl) ?_
            refine rk_goto 34 dM_slide_112 (by decide) ?_
            refine rk_lv [some (.ref a), some (.ref b), some (.ref b2), some (.int (nI fr)), some (.int (nI to)), some (.int (nI (to + I))), some (.int (nI (y + 1))), none, none] ⟨rfl, rfl, rfl, rfl, rfl, rfl, rfl, trivial⟩ ?_
            exact ih (y + 1) I w (by omega) (by rw [hI, Nat.succ_mul]) hw
          · exact absurd (nI_le (Nat.le_refl _) (by have := hG.1; omega)) q_52
        | succ k2 ih2 =>
          intro x I w hx hI hw
          obtain ⟨⟨t1, t2⟩, ⟨t3, t4⟩, t5⟩ := hG.at (show y < n.h by omega) (show x < n.w by omega)
          have emv : w_mov w (nI y) (nI x) = wM (gOf n o) y x := hw.mov t1 t2 (by omega) (by omega) (by have := t5.2.2.1; omega) (by have := t5.2.2.2.1; omega)
          have lpc : ∀ (k3 c I : Nat), c + k3 = n.c → I = (y * n.w + x) * n.c + c → rk_Run mM_slide (3, 57, 0, 0) (mP h M (itf (G_win n o wt ra fr) to n.ce f)) 69 [some (.ref a), some (.ref b), some (.ref b2), some (.int (nI fr)), some (.int (nI to)), some (.int (nI (to + I))), some (.int (nI y)), some (.int (nI x)), some (.int (nI c))] [] (mv h M (wM (gOf n o) y x) p q (itf (G_win n o wt ra fr) to I f)) (0, 0) := by
            intro k3
            induction k3 with
            | zero =>
              intro c I hc hI
              have hc : c = n.c := by omega
              subst hc
              refine rk_iload dM_slide_69 rfl ?_
              refine rk_aload_n dM_slide_71 rfl ?_
              refine rk_getf fM_164 dM_slide_72 (by first | exact k.ma | exact k.mn hb | exact k.mn hb2 | exact k.mwi | exact mv_ce | exact k.ms1 | assumption) rfl ?_
              refine rk_icmp_ge 103 dM_slide_75 (by decide) (fun q_75 => ?_) (fun q_75 => ?_)
              · refine rk_iinc dM_slide_103 rfl (inc1 x) (Nat.le_of_ble_eq_true rfl) ?_
                refine rk_goto 46 dM_slide_106 (by decide) ?_
                refine rk_lv [some (.ref a), some (.ref b), some (.ref b2), some (.int (nI fr)), some (.int (nI to)), some (.int (nI (to + I))), some (.int (nI y)), some (.int (nI (x + 1))), none] ⟨rfl, rfl, rfl, rfl, rfl, rfl, rfl, rfl, trivial⟩ ?_
                exact ih2 (x + 1) I _ (by omega) (by rw [hI, ← Nat.succ_mul]; rfl) (wfit_M _ _ _)
              · exact absurd (nI_le (Nat.le_refl _) (by omega)) q_75
            | succ k3 ih3 =>
              intro c I hc hI
              have hI2 : I < n.ce := by rw [hI]; exact ix3 (show y < n.h by omega) (show x < n.w by omega) (by omega)
              refine rk_iload dM_slide_69 rfl ?_
              refine rk_aload_n dM_slide_71 rfl ?_
              refine rk_getf fM_164 dM_slide_72 (by first | exact k.ma | exact k.mn hb | exact k.mn hb2 | exact k.mwi | exact mv_ce | exact k.ms1 | assumption) rfl ?_
              refine rk_icmp_ge 103 dM_slide_75 (by decide) (fun q_75 => ?_) (fun q_75 => ?_)
              · exact absurd q_75 (nI_ge (by omega) (by omega))
              · refine rk_aload_n dM_slide_78 rfl ?_
                refine rk_getf fM_15 dM_slide_79 (by first | exact k.ma | exact k.mn hb | exact k.mn hb2 | exact k.mwi | exact mv_ce | exact k.ms1 | assumption) rfl ?_
                refine rk_iload dM_slide_82 rfl ?_
                refine rk_aload_n dM_slide_84 rfl ?_
                refine rk_aload_n dM_slide_85 rfl ?_
                refine rk_aload_n dM_slide_86 rfl ?_
                refine rk_iload_n dM_slide_87 rfl ?_
                refine rk_iload dM_slide_88 rfl ?_
                refine rk_cvV (c_M_ofWindow a b b2 M n o fe fe2 ra ro ra2 ro2 (gOf n o) y x fr c _ wt h w p q k hb hb2 t5 rfl rfl (by omega) h1 hp) cM_167 dM_slide_90 rfl lM_ofWindow (Nat.le_of_ble_eq_true rfl) (Nat.le_of_ble_eq_true rfl) (Nat.le_of_ble_eq_true rfl) (Nat.le_of_ble_eq_true rfl) (by first | exact k.ma | exact k.mn hb | exact k.mn hb2 | exact k.mwi | exact mv_ce | exact k.ms1 | assumption) ?_
                refine rk_iast dM_slide_93 (by first | exact k.ma | exact k.mn hb | exact k.mn hb2 | exact k.mwi | exact mv_ce | exact k.ms1 | assumption) (vp_in_nI (show to + I < 1792 by omega) (by omega)) ?_
                rw [mv_uce, nI_clamp (show to + I < 2 ^ 31 by omega)]
                refine rk_iinc dM_slide_94 rfl (inc1 (to + I)) (Nat.le_of_ble_eq_true rfl) ?_
                refine rk_iinc dM_slide_97 rfl (inc1 c) (Nat.le_of_ble_eq_true rfl) ?_
                refine rk_goto 69 dM_slide_100 (by decide) ?_
                have eg := G_win_at (n := n) (o := o) (wt := wt) (r := ra) (fr := fr) (y := y) (x := x) (c := c) (by omega) (by omega) (itf (G_win n o wt ra fr) to I f)
                rw [← hI] at eg
                rw [← eg, ← itf_s]
                exact ih3 (c + 1) (I + 1) (by omega) (by omega)
          refine rk_iload dM_slide_46 rfl ?_
          refine rk_aload_n dM_slide_48 rfl ?_
          refine rk_getf fM_157 dM_slide_49 (by first | exact k.ma | exact k.mn hb | exact k.mn hb2 | exact k.mwi | exact mv_ce | exact k.ms1 | assumption) rfl ?_
          refine rk_icmp_ge 109 dM_slide_52 (by decide) (fun q_52 => ?_) (fun q_52 => ?_)
          · exact absurd q_52 (nI_ge (by omega) (by have := hG.1; omega))
          · refine rk_aload_n dM_slide_55 rfl ?_
            refine rk_getf fM_21 dM_slide_56 (by first | exact k.ma | exact k.mn hb | exact k.mn hb2 | exact k.mwi | exact mv_ce | exact k.ms1 | assumption) rfl ?_
            refine rk_iload dM_slide_59 rfl ?_
            refine rk_iload dM_slide_61 rfl ?_
            refine rk_cv0 (c_W_move M.wi w (nI y) (nI x) _ k.mwi) cM_160 dM_slide_63 rfl lW_move (Nat.le_of_ble_eq_true rfl) (Nat.le_of_ble_eq_true rfl) (Nat.le_of_ble_eq_true rfl) (Nat.le_of_ble_eq_true rfl) (by first | exact k.ma | exact k.mn hb | exact k.mn hb2 | exact k.mwi | exact mv_ce | exact k.ms1 | assumption) ?_
            rw [k.uwi, emv]
            refine rk_iconst (v := 0) dM_slide_66 (by decide) ?_
            refine rk_istore dM_slide_67 (Nat.le_of_ble_eq_true rfl) ?_
            exact lpc n.c 0 I (by omega) (by omega)
      refine rk_iload dM_slide_34 rfl ?_
      refine rk_aload_n dM_slide_36 rfl ?_
      refine rk_getf fM_154 dM_slide_37 (by first | exact k.ma | exact k.mn hb | exact k.mn hb2 | exact k.mwi | exact mv_ce | exact k.ms1 | assumption) rfl ?_
      refine rk_icmp_ge 115 dM_slide_40 (by decide) (fun q_40 => ?_) (fun q_40 => ?_)
      · exact absurd q_40 (nI_ge (by omega) (by have := hG.1; omega))
      · refine rk_iconst (v := 0) dM_slide_43 (by decide) ?_
        refine rk_istore dM_slide_44 (Nat.le_of_ble_eq_true rfl) ?_
        exact lpx n.w 0 I w (by omega) (by rw [hI]; rfl) hw
  refine rk_Con.of [some (.ref a), some (.ref b), some (.ref b2), some (.int (nI fr)), some (.int (nI to)), none, none, none, none] rfl (Nat.le_of_ble_eq_true rfl) (by decide +kernel) ?_
  have hlay := hG.lay w fe fe2 ra ro ra2 ro2
  have two : (n_hasW (nI n.kd) = true ∧ d_good ra = true ∧ winOK n o (gOf n o) ra (s_mul ra, s_sh ra)) ∨ (n_hasW (nI n.kd) = false ∧ winOK n o (gOf n o) ra p) := by
    rcases hk with ⟨e, e1, e2, e3⟩ | ⟨e, e1, e2, e3⟩ | ⟨e, e1⟩ | ⟨e, e1⟩
    · exact Or.inl ⟨by rw [e]; decide, e3, Or.inl ⟨e, e1, e2, rfl⟩⟩
    · exact Or.inl ⟨by rw [e]; decide, e3, Or.inr (Or.inl ⟨e, e1, e2, rfl⟩)⟩
    · exact Or.inr ⟨by rw [e]; decide, Or.inr (Or.inr (Or.inl ⟨e, e1⟩))⟩
    · exact Or.inr ⟨by rw [e]; decide, Or.inr (Or.inr (Or.inr ⟨e, e1⟩))⟩
  rcases two with ⟨t1, t2, t3⟩ | ⟨t1, t3⟩
  · refine rk_aload_n dM_slide_0 rfl ?_
    refine rk_getf fM_21 dM_slide_1 (by first | exact k.ma | exact k.mn hb | exact k.mn hb2 | exact k.mwi | exact mv_ce | exact k.ms1 | assumption) rfl ?_
    refine rk_aload_n dM_slide_4 rfl ?_
    refine rk_aload_n dM_slide_5 rfl ?_
    refine rk_cv0 (c_W_lay M.wi b b2 w (nM n fe ra ro) (nM o fe2 ra2 ro2) _ k.mwi (k.mn hb) (k.mn hb2) hbw hb2w) cM_139 dM_slide_6 rfl lW_lay (Nat.le_of_ble_eq_true rfl) (Nat.le_of_ble_eq_true rfl) (Nat.le_of_ble_eq_true rfl) (Nat.le_of_ble_eq_true rfl) (by first | exact k.ma | exact k.mn hb | exact k.mn hb2 | exact k.mwi | exact mv_ce | exact k.ms1 | assumption) ?_
    rw [k.uwi]
    refine rk_aload_n dM_slide_9 rfl ?_
    refine rk_cvV (c_N_hasWeights b (nM n fe ra ro) _ (k.mn hb)) cM_143 dM_slide_10 rfl lN_hasWeights (Nat.le_of_ble_eq_true rfl) (Nat.le_of_ble_eq_true rfl) (Nat.le_of_ble_eq_true rfl) (Nat.le_of_ble_eq_true rfl) (by first | exact k.ma | exact k.mn hb | exact k.mn hb2 | exact k.mwi | exact mv_ce | exact k.ms1 | assumption) ?_
    rw [show n_hasW (nM n fe ra ro).kd = true from t1]
    refine rk_if_eq 27 dM_slide_13 (by decide) (fun q_13 => ?_) (fun q_13 => ?_)
    · exact absurd q_13 (by decide)
    · refine rk_aload_n dM_slide_16 rfl ?_
      refine rk_getf fM_28 dM_slide_17 (by first | exact k.ma | exact k.mn hb | exact k.mn hb2 | exact k.mwi | exact mv_ce | exact k.ms1 | assumption) rfl ?_
      refine rk_aload_n dM_slide_20 rfl ?_
      refine rk_getf fM_147 dM_slide_21 (by first | exact k.ma | exact k.mn hb | exact k.mn hb2 | exact k.mwi | exact mv_ce | exact k.ms1 | assumption) rfl ?_
      refine rk_cv0 (c_S_take M.s1 p.1 p.2 ra _ k.ms1 t2) cM_150 dM_slide_24 rfl lS_take (Nat.le_of_ble_eq_true rfl) (Nat.le_of_ble_eq_true rfl) (Nat.le_of_ble_eq_true rfl) (Nat.le_of_ble_eq_true rfl) (by first | exact k.ma | exact k.mn hb | exact k.mn hb2 | exact k.mwi | exact mv_ce | exact k.ms1 | assumption) ?_
      rw [k.us1T]
      refine rk_iload dM_slide_27 rfl ?_
      refine rk_istore dM_slide_29 (Nat.le_of_ble_eq_true rfl) ?_
      refine rk_iconst (v := 0) dM_slide_31 (by decide) ?_
      refine rk_istore dM_slide_32 (Nat.le_of_ble_eq_true rfl) ?_
      exact loop _ t3 n.h 0 0 _ (by omega) (by omega) hlay
  · refine rk_aload_n dM_slide_0 rfl ?_
    refine rk_getf fM_21 dM_slide_1 (by first | exact k.ma | exact k.mn hb | exact k.mn hb2 | exact k.mwi | exact mv_ce | exact k.ms1 | assumption) rfl ?_
    refine rk_aload_n dM_slide_4 rfl ?_
    refine rk_aload_n dM_slide_5 rfl ?_
    refine rk_cv0 (c_W_lay M.wi b b2 w (nM n fe ra ro) (nM o fe2 ra2 ro2) _ k.mwi (k.mn hb) (k.mn hb2) hbw hb2w) cM_139 dM_slide_6 rfl lW_lay (Nat.le_of_ble_eq_true rfl) (Nat.le_of_ble_eq_true rfl) (Nat.le_of_ble_eq_true rfl) (Nat.le_of_ble_eq_true rfl) (by first | exact k.ma | exact k.mn hb | exact k.mn hb2 | exact k.mwi | exact mv_ce | exact k.ms1 | assumption) ?_
    rw [k.uwi]
    refine rk_aload_n dM_slide_9 rfl ?_
    refine rk_cvV (c_N_hasWeights b (nM n fe ra ro) _ (k.mn hb)) cM_143 dM_slide_10 rfl lN_hasWeights (Nat.le_of_ble_eq_true rfl) (Nat.le_of_ble_eq_true rfl) (Nat.le_of_ble_eq_true rfl) (Nat.le_of_ble_eq_true rfl) (by first | exact k.ma | exact k.mn hb | exact k.mn hb2 | exact k.mwi | exact mv_ce | exact k.ms1 | assumption) ?_
    rw [show n_hasW (nM n fe ra ro).kd = false from t1]
    refine rk_if_eq 27 dM_slide_13 (by decide) (fun q_13 => ?_) (fun q_13 => ?_)
    · refine rk_iload dM_slide_27 rfl ?_
      refine rk_istore dM_slide_29 (Nat.le_of_ble_eq_true rfl) ?_
      refine rk_iconst (v := 0) dM_slide_31 (by decide) ?_
      refine rk_istore dM_slide_32 (Nat.le_of_ble_eq_true rfl) ?_
      exact loop _ t3 n.h 0 0 _ (by omega) (by omega) hlay
    · exact absurd rfl q_13
