/-! Machine: the rest of the sums; the steps that store -/
def g_all (g : wP) (y x fr off ch D W : Nat) (f wt : Nat → Int32) (r c : Nat) (s : Int32) : Int32 := itr (fun i s => s + f (fr + ((r * W + c) * D + i)) * wt (off + (w_tap g y x ch r c * D + i))) D 0 s
theorem c_M_sumAll (a b b2 : Nat) (M : mR) (n o : aN) (fe fe2 : Nat) (ra ro ra2 ro2 : UInt64) (g : wP) (y x fr ch : Nat) (f wt : Nat → Int32) (h : rk_H) (ha : h a = some (oB 1 M.ls)) (hb : h b = some (oB 2 (nL n fe ra ro))) (hb2 : h b2 = some (oB 2 (nL o fe2 ra2 ro2))) (hw : h M.wi = some (oB 4 (wL g y x))) (hc : h M.ce = some (iA 1792 f)) (hv : h M.wc = some (iA 512 wt)) (hg : w_ok g y x) (hoh : g.oh = o.h) (how : g.ow = o.w) (hoc : o.c ≤ 8) (hch : ch < n.c) (h1 : fr + o.ce ≤ 1792) (h2 : n.off + n.c * g.k * g.k * o.c ≤ 512) :
    rk_Con mM_sumAllChannels (0, 0, 0, 0) [.ref a, .ref b, .ref b2, .int (nI fr), .int (nI ch)] h (rk_Rv (.int (itw g y x (g_all g y x fr n.off ch o.c o.w f wt) 0)) h) := by
  obtain ⟨g1, g2, g3, g4, g5⟩ := hg
  have r1l := w_r1_le (g := g) (y := y)
  have c1l := w_c1_le (g := g) (x := x)
  have loop : ∀ (k i : Nat) (s : Int32), i + k = w_r1 g y → w_r0 g y ≤ i → rk_Run mM_sumAllChannels (0, 0, 0, 0) (rk_Rv (.int (itr (fun r s => itr (g_all g y x fr n.off ch o.c o.w f wt r) (w_c1 g x - w_c0 g x) (w_c0 g x) s) k i s)) h) 27 [some (.ref a), some (.ref b), some (.ref b2), some (.int (nI fr)), some (.int (nI ch)), some (.int (nI g.k)), some (.int (nI o.c)), some (.int s), some (.int (nI i)), none, none, none, none, none] [] h (0, 0) := by
    intro k
    induction k with
    | zero =>
      intro i s hi hl
      have hi : i = w_r1 g y := by omega
      subst hi
      refine rk_iload dM_sumAllChannels_27 rfl ?_
      refine rk_aload_n dM_sumAllChannels_29 rfl ?_
      refine rk_getf fM_21 dM_sumAllChannels_30 (by first | exact ha | exact hb | exact hb2 | exact hw | exact hc | exact hv | assumption) rfl ?_
      refine rk_getf fM_202 dM_sumAllChannels_33 (by first | exact ha | exact hb | exact hb2 | exact hw | exact hc | exact hv | assumption) rfl ?_
      refine rk_icmp_ge 175 dM_sumAllChannels_36 (by decide) (fun q_36 => ?_) (fun q_36 => ?_)
      · refine rk_iload dM_sumAllChannels_175 rfl ?_
        exact rk_iret rfl dM_sumAllChannels_177 ⟨(Nat.le_of_ble_eq_true rfl), (Nat.le_of_ble_eq_true rfl)⟩ (⟨rfl, rfl⟩)
      · exact absurd (nI_le (Nat.le_refl _) (by omega)) q_36
    | succ k ih =>
      intro i s hi hl
      have hr := w_r1_k hl (show i < w_r1 g y by omega)
      have inn : ∀ (k2 j : Nat) (s : Int32), j + k2 = w_c1 g x → w_c0 g x ≤ j → rk_Run mM_sumAllChannels (0, 0, 0, 0) (rk_Rv (.int (itr (fun r s => itr (g_all g y x fr n.off ch o.c o.w f wt r) (w_c1 g x - w_c0 g x) (w_c0 g x) s) k (i + 1) (itr (g_all g y x fr n.off ch o.c o.w f wt i) k2 j s))) h) 48 [some (.ref a), some (.ref b), some (.ref b2), some (.int (nI fr)), some (.int (nI ch)), some (.int (nI g.k)), some (.int (nI o.c)), some (.int s), some (.int (nI i)), some (.int (nI j)), none, none, none, none] [] h (0, 0) := by
        intro k2
        induction k2 with
        | zero =>
          intro j s hj hl2
          have hj : j = w_c1 g x := by omega
          subst hj
          refine rk_iload dM_sumAllChannels_48 rfl ?_
          refine rk_aload_n dM_sumAllChannels_50 rfl ?_
          refine rk_getf fM_21 dM_sumAllChannels_51 (by first | exact ha | exact hb | exact hb2 | exact hw | exact hc | exact hv | assumption) rfl ?_
          refine rk_getf fM_208 dM_sumAllChannels_54 (by first | exact ha | exact hb | exact hb2 | exact hw | exact hc | exact hv | assumption) rfl ?_
          refine rk_icmp_ge 169 dM_sumAllChannels_57 (by decide) (fun q_57 => ?_) (fun q_57 => ?_)
          · refine rk_iinc dM_sumAllChannels_169 rfl (inc1 i) (Nat.le_of_ble_eq_true rfl) ?_
            refine rk_goto 27 dM_sumAllChannels_172 (by decide) ?_
            refine rk_lv [some (.ref a), some (.ref b), some (.ref b2), some (.int (nI fr)), some (.int (nI ch)), some (.int (nI g.k)), some (.int (nI o.c)), some (.int s), some (.int (nI (i + 1))), none, none, none, none, none] ⟨rfl, rfl, rfl, rfl, rfl, rfl, rfl, rfl, rfl, trivial⟩ ?_
            exact ih (i + 1) _ (by omega) (by omega)
          · exact absurd (nI_le (Nat.le_refl _) (by omega)) q_57
        | succ k2 ih2 =>
          intro j s hj hl2
          have hcc := w_c1_k hl2 (show j < w_c1 g x by omega)
          have hy : w_tap g y x ch i j < n.c * g.k * g.k := ix3 hch hr.1 hcc.1
          have et : (ch * g.k + i + g.rb - y * g.sp) * g.k + j + g.cb - x * g.sp = w_tap g y x ch i j := by
            rw [show ch * g.k + i + g.rb - y * g.sp = ch * g.k + (i + g.rb - y * g.sp) by omega]
            unfold w_tap
            omega
          have inm : ∀ (k3 z : Nat) (s : Int32), z + k3 = o.c → rk_Run mM_sumAllChannels (0, 0, 0, 0) (rk_Rv (.int (itr (fun r s => itr (g_all g y x fr n.off ch o.c o.w f wt r) (w_c1 g x - w_c0 g x) (w_c0 g x) s) k (i + 1) (itr (g_all g y x fr n.off ch o.c o.w f wt i) k2 (j + 1) (itr (fun z s => s + f (fr + ((i * o.w + j) * o.c + z)) * wt (n.off + (w_tap g y x ch i j * o.c + z))) k3 z s)))) h) 124 [some (.ref a), some (.ref b), some (.ref b2), some (.int (nI fr)), some (.int (nI ch)), some (.int (nI g.k)), some (.int (nI o.c)), some (.int s), some (.int (nI i)), some (.int (nI j)), some (.int (nI (fr + (i * o.w + j) * o.c))), none, some (.int (nI (n.off + w_tap g y x ch i j * o.c))), some (.int (nI z))] [] h (0, 0) := by
            intro k3
            induction k3 with
            | zero =>
              intro z s hz
              have hz : z = o.c := by omega
              subst hz
              refine rk_iload dM_sumAllChannels_124 rfl ?_
              refine rk_iload dM_sumAllChannels_126 rfl ?_
              refine rk_icmp_ge 163 dM_sumAllChannels_128 (by decide) (fun q_128 => ?_) (fun q_128 => ?_)
              · refine rk_iinc dM_sumAllChannels_163 rfl (inc1 j) (Nat.le_of_ble_eq_true rfl) ?_
                refine rk_goto 48 dM_sumAllChannels_166 (by decide) ?_
                refine rk_lv [some (.ref a), some (.ref b), some (.ref b2), some (.int (nI fr)), some (.int (nI ch)), some (.int (nI g.k)), some (.int (nI o.c)), some (.int s), some (.int (nI i)), some (.int (nI (j + 1))), none, none, none, none] ⟨rfl, rfl, rfl, rfl, rfl, rfl, rfl, rfl, rfl, rfl, trivial⟩ ?_
                exact ih2 (j + 1) _ (by omega) (by omega)
              · exact absurd (nI_le (Nat.le_refl _) (by omega)) q_128
            | succ k3 ih3 =>
              intro z s hz
              have hx : (i * o.w + j) * o.c + z < o.ce := ix3 (show i < o.h by omega) (show j < o.w by omega) (by omega)
              have hy2 : w_tap g y x ch i j * o.c + z < n.c * g.k * g.k * o.c := ix2 hy (by omega)
              refine rk_iload dM_sumAllChannels_124 rfl ?_
              refine rk_iload dM_sumAllChannels_126 rfl ?_
              refine rk_icmp_ge 163 dM_sumAllChannels_128 (by decide) (fun q_128 => ?_) (fun q_128 => ?_)
              · exact absurd q_128 (nI_ge (by omega) (by omega))
              · refine rk_iload dM_sumAllChannels_131 rfl ?_
                refine rk_aload_n dM_sumAllChannels_133 rfl ?_
                refine rk_getf fM_15 dM_sumAllChannels_134 (by first | exact ha | exact hb | exact hb2 | exact hw | exact hc | exact hv | assumption) rfl ?_
                refine rk_iload dM_sumAllChannels_137 rfl ?_
                refine rk_iload dM_sumAllChannels_139 rfl ?_
                refine rk_iadd dM_sumAllChannels_141 ?_
                rw [nI_add, show fr + (i * o.w + j) * o.c + z = fr + ((i * o.w + j) * o.c + z) by omega]
                refine rk_iald dM_sumAllChannels_142 (by first | exact ha | exact hb | exact hb2 | exact hw | exact hc | exact hv | assumption) (vp_in_nI (show fr + ((i * o.w + j) * o.c + z) < 1792 by omega) (by omega)) ?_
                rw [nI_clamp (show fr + ((i * o.w + j) * o.c + z) < 2 ^ 31 by omega)]
                refine rk_aload_n dM_sumAllChannels_143 rfl ?_
                refine rk_getf fM_9 dM_sumAllChannels_144 (by first | exact ha | exact hb | exact hb2 | exact hw | exact hc | exact hv | assumption) rfl ?_
                refine rk_iload dM_sumAllChannels_147 rfl ?_
                refine rk_iload dM_sumAllChannels_149 rfl ?_
                refine rk_iadd dM_sumAllChannels_151 ?_
                rw [nI_add (n.off + _) z, show n.off + w_tap g y x ch i j * o.c + z = n.off + (w_tap g y x ch i j * o.c + z) by omega]
                refine rk_iald dM_sumAllChannels_152 (by first | exact ha | exact hb | exact hb2 | exact hw | exact hc | exact hv | assumption) (vp_in_nI (show n.off + (w_tap g y x ch i j * o.c + z) < 512 by omega) (by omega)) ?_
                rw [nI_clamp (show n.off + (w_tap g y x ch i j * o.c + z) < 2 ^ 31 by omega)]
                refine rk_imul dM_sumAllChannels_153 ?_
                refine rk_iadd dM_sumAllChannels_154 ?_
                refine rk_istore dM_sumAllChannels_155 (Nat.le_of_ble_eq_true rfl) ?_
                refine rk_iinc dM_sumAllChannels_157 rfl (inc1 z) (Nat.le_of_ble_eq_true rfl) ?_
                refine rk_goto 124 dM_sumAllChannels_160 (by decide) ?_
                exact ih3 (z + 1) _ (by omega)
          refine rk_iload dM_sumAllChannels_48 rfl ?_
          refine rk_aload_n dM_sumAllChannels_50 rfl ?_
          refine rk_getf fM_21 dM_sumAllChannels_51 (by first | exact ha | exact hb | exact hb2 | exact hw | exact hc | exact hv | assumption) rfl ?_
          refine rk_getf fM_208 dM_sumAllChannels_54 (by first | exact ha | exact hb | exact hb2 | exact hw | exact hc | exact hv | assumption) rfl ?_
          refine rk_icmp_ge 169 dM_sumAllChannels_57 (by decide) (fun q_57 => ?_) (fun q_57 => ?_)
          · exact absurd q_57 (nI_ge (by omega) (by omega))
          · refine rk_iload_n dM_sumAllChannels_60 rfl ?_
            refine rk_iload dM_sumAllChannels_61 rfl ?_
            refine rk_aload_n dM_sumAllChannels_63 rfl ?_
            refine rk_getf fM_157 dM_sumAllChannels_64 (by first | exact ha | exact hb | exact hb2 | exact hw | exact hc | exact hv | assumption) rfl ?_
            refine rk_imul dM_sumAllChannels_67 ?_
            refine rk_iload dM_sumAllChannels_68 rfl ?_
            refine rk_iadd dM_sumAllChannels_70 ?_
            refine rk_iload dM_sumAllChannels_71 rfl ?_
            refine rk_imul dM_sumAllChannels_73 ?_
            refine rk_iadd dM_sumAllChannels_74 ?_
            rw [pk_mul, nI_add, pk_mul, nI_add]
            refine rk_istore dM_sumAllChannels_75 (Nat.le_of_ble_eq_true rfl) ?_
            refine rk_iload dM_sumAllChannels_77 rfl ?_
            refine rk_iload dM_sumAllChannels_79 rfl ?_
            refine rk_imul dM_sumAllChannels_81 ?_
            refine rk_iload dM_sumAllChannels_82 rfl ?_
            refine rk_iadd dM_sumAllChannels_84 ?_
            refine rk_aload_n dM_sumAllChannels_85 rfl ?_
            refine rk_getf fM_21 dM_sumAllChannels_86 (by first | exact ha | exact hb | exact hb2 | exact hw | exact hc | exact hv | assumption) rfl ?_
            refine rk_getf fM_211 dM_sumAllChannels_89 (by first | exact ha | exact hb | exact hb2 | exact hw | exact hc | exact hv | assumption) rfl ?_
            refine rk_isub dM_sumAllChannels_92 ?_
            refine rk_iload dM_sumAllChannels_93 rfl ?_
            refine rk_imul dM_sumAllChannels_95 ?_
            refine rk_iload dM_sumAllChannels_96 rfl ?_
            refine rk_iadd dM_sumAllChannels_98 ?_
            refine rk_aload_n dM_sumAllChannels_99 rfl ?_
            refine rk_getf fM_21 dM_sumAllChannels_100 (by first | exact ha | exact hb | exact hb2 | exact hw | exact hc | exact hv | assumption) rfl ?_
            refine rk_getf fM_214 dM_sumAllChannels_103 (by first | exact ha | exact hb | exact hb2 | exact hw | exact hc | exact hv | assumption) rfl ?_
            refine rk_isub dM_sumAllChannels_106 ?_
            rw [pk_mul, nI_add, nI_s3 (show y * g.sp ≤ ch * g.k + i + g.rb by omega), pk_mul, nI_add, nI_s3 (by omega), et]
            refine rk_istore dM_sumAllChannels_107 (Nat.le_of_ble_eq_true rfl) ?_
            refine rk_aload_n dM_sumAllChannels_109 rfl ?_
            refine rk_getf fM_217 dM_sumAllChannels_110 (by first | exact ha | exact hb | exact hb2 | exact hw | exact hc | exact hv | assumption) rfl ?_
            refine rk_iload dM_sumAllChannels_113 rfl ?_
            refine rk_iload dM_sumAllChannels_115 rfl ?_
            refine rk_imul dM_sumAllChannels_117 ?_
            refine rk_iadd dM_sumAllChannels_118 ?_
            rw [pk_mul, nI_add]
            refine rk_istore dM_sumAllChannels_119 (Nat.le_of_ble_eq_true rfl) ?_
            refine rk_iconst (v := 0) dM_sumAllChannels_121 (by decide) ?_
            refine rk_istore dM_sumAllChannels_122 (Nat.le_of_ble_eq_true rfl) ?_
            refine rk_lv [some (.ref a), some (.ref b), some (.ref b2), some (.int (nI fr)), some (.int (nI ch)), some (.int (nI g.k)), some (.int (nI o.c)), some (.int s), some (.int (nI i)), some (.int (nI j)), some (.int (nI (fr + (i * o.w + j) * o.c))), none, some (.int (nI (n.off + w_tap g y x ch i j * o.c))), some (.int (nI 0))] ⟨rfl, rfl, rfl, rfl, rfl, rfl, rfl, rfl, rfl, rfl, rfl, rfl, rfl, trivial⟩ ?_
            exact inm o.c 0 s (by omega)
      refine rk_iload dM_sumAllChannels_27 rfl ?_
      refine rk_aload_n dM_sumAllChannels_29 rfl ?_
      refine rk_getf fM_21 dM_sumAllChannels_30 (by first | exact ha | exact hb | exact hb2 | exact hw | exact hc | exact hv | assumption) rfl ?_
      refine rk_getf fM_202 dM_sumAllChannels_33 (by first | exact ha | exact hb | exact hb2 | exact hw | exact hc | exact hv | assumption) rfl ?_
      refine rk_icmp_ge 175 dM_sumAllChannels_36 (by decide) (fun q_36 => ?_) (fun q_36 => ?_)
      · exact absurd q_36 (nI_ge (by omega) (by omega))
      · refine rk_aload_n dM_sumAllChannels_39 rfl ?_
        refine rk_getf fM_21 dM_sumAllChannels_40 (by first | exact ha | exact hb | exact hb2 | exact hw | exact hc | exact hv | assumption) rfl ?_
        refine rk_getf fM_205 dM_sumAllChannels_43 (by first | exact ha | exact hb | exact hb2 | exact hw | exact hc | exact hv | assumption) rfl ?_
        refine rk_istore dM_sumAllChannels_46 (Nat.le_of_ble_eq_true rfl) ?_
        exact inn (w_c1 g x - w_c0 g x) (w_c0 g x) s (by omega) (by omega)
  refine rk_Con.of [some (.ref a), some (.ref b), some (.ref b2), some (.int (nI fr)), some (.int (nI ch)), none, none, none, none, none, none, none, none, none] rfl (Nat.le_of_ble_eq_true rfl) (by decide +kernel) ?_
  refine rk_aload_n dM_sumAllChannels_0 rfl ?_
  refine rk_getf fM_21 dM_sumAllChannels_1 (by first | exact ha | exact hb | exact hb2 | exact hw | exact hc | exact hv | assumption) rfl ?_
  refine rk_getf fM_171 dM_sumAllChannels_4 (by first | exact ha | exact hb | exact hb2 | exact hw | exact hc | exact hv | assumption) rfl ?_
  refine rk_istore dM_sumAllChannels_7 (Nat.le_of_ble_eq_true rfl) ?_
  refine rk_aload_n dM_sumAllChannels_9 rfl ?_
  refine rk_getf fM_164 dM_sumAllChannels_10 (by first | exact ha | exact hb | exact hb2 | exact hw | exact hc | exact hv | assumption) rfl ?_
  refine rk_istore dM_sumAllChannels_13 (Nat.le_of_ble_eq_true rfl) ?_
  refine rk_iconst (v := 0) dM_sumAllChannels_15 (by decide) ?_
  refine rk_istore dM_sumAllChannels_16 (Nat.le_of_ble_eq_true rfl) ?_
  refine rk_aload_n dM_sumAllChannels_18 rfl ?_
  refine rk_getf fM_21 dM_sumAllChannels_19 (by first | exact ha | exact hb | exact hb2 | exact hw | exact hc | exact hv | assumption) rfl ?_
  refine rk_getf fM_199 dM_sumAllChannels_22 (by first | exact ha | exact hb | exact hb2 | exact hw | exact hc | exact hv | assumption) rfl ?_
  refine rk_istore dM_sumAllChannels_25 (Nat.le_of_ble_eq_true rfl) ?_
  exact loop (w_r1 g y - w_r0 g y) (w_r0 g y) 0 (by omega) (by omega)
/-- scaled by a ratio and cut -/
def s_by (r : UInt64) (x : Int32) : Int32 := s_cut (s_scl (s_mul r) (s_sh r) x)
def sL (m : Int64) (sh : Int32) : List Value := [.long m, .int sh]
def sT (r : UInt64) : List Value := [.long (s_mul r), .int (s_sh r)]
theorem c_M_changeScale (a b : Nat) (M : mR) (x : aN) (fe : Nat) (ra ro : UInt64) (m0 : Int64) (sh0 : Int32) (fr to : Nat) (f : Nat → Int32) (h : rk_H) (ha : h a = some (oB 1 M.ls)) (hb : h b = some (oB 2 (nL x fe ra ro))) (hc : h M.ce = some (iA 1792 f)) (hs : h M.s1 = some (oB 3 (sL m0 sh0))) (hr : d_good ra = true) (h1 : fr + x.ce ≤ 1792) (h2 : to + x.ce ≤ 1792) :
    rk_Con mM_changeScale (2, 37, 0, 0) [.ref a, .ref b, .int (nI fr), .int (nI to)] h (rk_R0 (rk_up (rk_up h M.s1 (oB 3 (sT ra))) M.ce (iA 1792 (itf (fun i f => s_by ra (f (fr + i))) to x.ce f)))) := by
  have ha1 : a ≠ M.s1 := rk_neq ha hs (by intro q; cases q)
  have hb1 : b ≠ M.s1 := rk_neq hb hs (by intro q; cases q)
  have hc1 : M.ce ≠ M.s1 := rk_neq hc hs (by intro q; cases q)
  have hac : a ≠ M.ce := rk_neq ha hc (by intro q; cases q)
  have hbc : b ≠ M.ce := rk_neq hb hc (by intro q; cases q)
  have hsc : M.s1 ≠ M.ce := hc1.symm
  have ha' : rk_up h M.s1 (oB 3 (sT ra)) a = some (oB 1 M.ls) := rk_up_k ha1 ha
  have hb' : rk_up h M.s1 (oB 3 (sT ra)) b = some (oB 2 (nL x fe ra ro)) := rk_up_k hb1 hb
  have hc' : rk_up h M.s1 (oB 3 (sT ra)) M.ce = some (iA 1792 f) := rk_up_k hc1 hc
  have hs' : rk_up h M.s1 (oB 3 (sT ra)) M.s1 = some (oB 3 (sT ra)) := rk_up_s
  have loop : ∀ (k i : Nat), i + k = x.ce → rk_Run mM_changeScale (2, 37, 0, 0) (rk_R0 (rk_up (rk_up h M.s1 (oB 3 (sT ra))) M.ce (iA 1792 (itf (fun i f => s_by ra (f (fr + i))) to x.ce f)))) 14 [some (.ref a), some (.ref b), some (.int (nI fr)), some (.int (nI to)), some (.int (nI i))] [] (rk_up (rk_up h M.s1 (oB 3 (sT ra))) M.ce (iA 1792 (itf (fun i f => s_by ra (f (fr + i))) to i f))) (0, 0) := by
    intro k
    generalize rk_up h M.s1 (oB 3 (sT ra)) = h' at ha' hb' hc' hs' ⊢
    induction k with
    | zero =>
      intro i hi
      have hi : i = x.ce := by omega
      subst hi
      refine rk_iload dM_changeScale_14 rfl ?_
      refine rk_aload_n dM_changeScale_16 rfl ?_
      refine rk_getf fM_71 dM_changeScale_17 (by first | exact ha' | exact hb' | exact hc' | exact hs' | assumption | (simp only [rk_up_s, rk_up_n hac, rk_up_n hbc, rk_up_n hsc]; first | exact ha' | exact hb' | exact hc' | exact hs' | rfl)) rfl ?_
      refine rk_icmp_ge 57 dM_changeScale_20 (by decide) (fun q_20 => ?_) (fun q_20 => ?_)
      · exact rk_ret rfl dM_changeScale_57 ⟨(Nat.le_of_ble_eq_true rfl), (Nat.le_of_ble_eq_true rfl)⟩ (⟨rfl, rfl⟩)
      · exact absurd (nI_le (Nat.le_refl _) (by omega)) q_20
    | succ k ih =>
      intro i hi
      refine rk_iload dM_changeScale_14 rfl ?_
      refine rk_aload_n dM_changeScale_16 rfl ?_
      refine rk_getf fM_71 dM_changeScale_17 (by first | exact ha' | exact hb' | exact hc' | exact hs' | assumption | (simp only [rk_up_s, rk_up_n hac, rk_up_n hbc, rk_up_n hsc]; first | exact ha' | exact hb' | exact hc' | exact hs' | rfl)) rfl ?_
      refine rk_icmp_ge 57 dM_changeScale_20 (by decide) (fun q_20 => ?_) (fun q_20 => ?_)
      · exact absurd q_20 (nI_ge (by omega) (by omega))
      · refine rk_aload_n dM_changeScale_23 rfl ?_
        refine rk_getf fM_15 dM_changeScale_24 (by first | exact ha' | exact hb' | exact hc' | exact hs' | assumption | (simp only [rk_up_s, rk_up_n hac, rk_up_n hbc, rk_up_n hsc]; first | exact ha' | exact hb' | exact hc' | exact hs' | rfl)) rfl ?_
        refine rk_iload_n dM_changeScale_27 rfl ?_
        refine rk_iload dM_changeScale_28 rfl ?_
        refine rk_iadd dM_changeScale_30 ?_
        rw [nI_add]
        refine rk_aload_n dM_changeScale_31 rfl ?_
        refine rk_getf fM_28 dM_changeScale_32 (by first | exact ha' | exact hb' | exact hc' | exact hs' | assumption | (simp only [rk_up_s, rk_up_n hac, rk_up_n hbc, rk_up_n hsc]; first | exact ha' | exact hb' | exact hc' | exact hs' | rfl)) rfl ?_
        refine rk_aload_n dM_changeScale_35 rfl ?_
        refine rk_getf fM_15 dM_changeScale_36 (by first | exact ha' | exact hb' | exact hc' | exact hs' | assumption | (simp only [rk_up_s, rk_up_n hac, rk_up_n hbc, rk_up_n hsc]; first | exact ha' | exact hb' | exact hc' | exact hs' | rfl)) rfl ?_
        refine rk_iload_n dM_changeScale_39 rfl ?_
        refine rk_iload dM_changeScale_40 rfl ?_
        refine rk_iadd dM_changeScale_42 ?_
        rw [nI_add fr i]
        refine rk_iald dM_changeScale_43 (by first | exact ha' | exact hb' | exact hc' | exact hs' | assumption | (simp only [rk_up_s, rk_up_n hac, rk_up_n hbc, rk_up_n hsc]; first | exact ha' | exact hb' | exact hc' | exact hs' | rfl)) (vp_in_nI (show fr + i < 1792 by omega) (by omega)) ?_
        rw [nI_clamp (show fr + i < 2 ^ 31 by omega)]
        refine rk_cvV (c_S_scaled M.s1 (s_mul ra) (s_sh ra) _ _ (by rw [rk_up_n hsc]; exact hs')) cM_181 dM_changeScale_44 rfl lS_scaled (Nat.le_of_ble_eq_true rfl) (Nat.le_of_ble_eq_true rfl) (Nat.le_of_ble_eq_true rfl) (Nat.le_of_ble_eq_true rfl) (by first | exact ha' | exact hb' | exact hc' | exact hs' | assumption | (simp only [rk_up_s, rk_up_n hac, rk_up_n hbc, rk_up_n hsc]; first | exact ha' | exact hb' | exact hc' | exact hs' | rfl)) ?_
        refine rk_csV (c_M_cut _ _) cM_185 dM_changeScale_47 rfl lM_cut (Nat.le_of_ble_eq_true rfl) (Nat.le_of_ble_eq_true rfl) (Nat.le_of_ble_eq_true rfl) (Nat.le_of_ble_eq_true rfl) ?_
        refine rk_iast dM_changeScale_50 (by first | exact ha' | exact hb' | exact hc' | exact hs' | assumption | (simp only [rk_up_s, rk_up_n hac, rk_up_n hbc, rk_up_n hsc]; first | exact ha' | exact hb' | exact hc' | exact hs' | rfl)) (vp_in_nI (show to + i < 1792 by omega) (by omega)) ?_
        refine rk_iinc dM_changeScale_51 rfl (inc1 i) (Nat.le_of_ble_eq_true rfl) ?_
        refine rk_goto 14 dM_changeScale_54 (by decide) ?_
        rw [rk_up_up, nI_clamp (show to + i < 2 ^ 31 by omega)]
        exact ih (i + 1) (by omega)
  refine rk_Con.of [some (.ref a), some (.ref b), some (.int (nI fr)), some (.int (nI to)), none] rfl (Nat.le_of_ble_eq_true rfl) (by decide +kernel) ?_
  refine rk_aload_n dM_changeScale_0 rfl ?_
  refine rk_getf fM_28 dM_changeScale_1 (by first | exact ha | exact hb | exact hc | exact hs | assumption) rfl ?_
  refine rk_aload_n dM_changeScale_4 rfl ?_
  refine rk_getf fM_147 dM_changeScale_5 (by first | exact ha | exact hb | exact hc | exact hs | assumption) rfl ?_
  refine rk_cv0 (c_S_take M.s1 m0 sh0 ra h hs hr) cM_150 dM_changeScale_8 rfl lS_take (Nat.le_of_ble_eq_true rfl) (Nat.le_of_ble_eq_true rfl) (Nat.le_of_ble_eq_true rfl) (Nat.le_of_ble_eq_true rfl) (by first | exact ha | exact hb | exact hc | exact hs | assumption) ?_
  refine rk_iconst (v := 0) dM_changeScale_11 (by decide) ?_
  refine rk_istore dM_changeScale_12 (Nat.le_of_ble_eq_true rfl) ?_
  have e := loop x.ce 0 (by omega)
  rw [itf_0, rk_up_id hc'] at e
  exact e
