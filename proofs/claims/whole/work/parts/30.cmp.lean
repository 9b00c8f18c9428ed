/-! Machine.compute -/
/-- an input lies where the plan says, apart from what is written -/
def opK (X : gX) (S : Nat → Nat) (N : Nat → aN) (a fr to ce : Nat) : Prop := (a < 14 ∧ X.sf a = nI (S a) ∧ S a < 14 ∧ X.pl (S a) = nI fr) ∧ fr + (N a).ce ≤ 1792 ∧ (fr + (N a).ce ≤ to ∨ to + ce ≤ fr)
def srcO (N : Nat → aN) (i : Nat) : aN := match (N i).one with
  | none => N i
  | some a => N a
def vI (N : Nat → aN) (wt : Nat → Int32) (i : Nat) (fd ca cb : Nat → Int32) (j : Nat) : Int32 := vNode (N i) (srcO N i) wt (ratA N i) (ratB N i) fd ca cb j
theorem c_M_compute (a0 gb : Nat) (M : mR) (A : gA) (X : gX) (n : Nat) (N : Nat → aN) (na : Nat → Option Nat) (ad fe S : Nat → Nat) (i fr fr2 to : Nat) (f fd wt : Nat → Int32) (h : rk_H) (w : wR) (p q : Int64 × Int32) (k : mOK h a0 M wt) (kg : gOK h gb A n N na ad fe) (hg : h gb = some (oB 0 (gls A X))) (hsf : h A.sf = some (iA 14 X.sf)) (hpl : h A.pl = some (iA 14 X.pl)) (hwf : wfN N n) (hi : i < n)
    (hfd : (N i).kd = 0 → h (fe i) = some (iA (N i).ce fd)) (hto : to + (N i).ce ≤ 1792) (ho1 : ∀ a, (N i).one = some a → opK X S N a fr to (N i).ce) (ho2 : ∀ a, (N i).two = some a → opK X S N a fr2 to (N i).ce) :
    rk_Con mM_compute (4, 77, 0, 0) [.ref a0, .ref gb, .ref (ad i), .int (nI to)] (mv h M w p q f) (mP h M (stp to (N i).ce (vI N wt i fd (fun j => f (fr + j)) (fun j => f (fr2 + j))) f)) := by
  have hn := kg.n14
  obtain ⟨⟨hbd, ⟨p1, p2, p3⟩, hsc⟩, hkind⟩ := hwf i hi
  have hce := hbd.ce
  have e1 : mv h M w p q f a0 = some (oB 1 M.ls) := k.ma
  have eg : mv h M w p q f gb = some (oB 0 (gls A X)) := k.mg hg
  have esf : mv h M w p q f A.sf = some (iA 14 X.sf) := k.mi hsf (by decide)
  have epl : mv h M w p q f A.pl = some (iA 14 X.pl) := k.mi hpl (by decide)
  have ena : mv h M w p q f A.na = some (qA 14 na) := k.mq kg.2.1.1
  have ei : mv h M w p q f (ad i) = some (oB 2 (nLi N fe i)) := k.mn (kg.2.1.2 i hi).2
  have hac : a0 ≠ M.ce := rk_neq e1 mv_ce (by intro q; cases q)
  have hbc : ad i ≠ M.ce := rk_neq ei mv_ce (by intro q; cases q)
  refine rk_Con.of [some (.ref a0), some (.ref gb), some (.ref (ad i)), some (.int (nI to)), none, none] rfl (Nat.le_of_ble_eq_true rfl) (by decide +kernel) ?_
  have hcase : ((N i).kd = 0 ∧ (N i).one = none) ∨ ∃ a, (N i).one = some a ∧ a < i := by
    rcases hkind with ⟨hk, h1, h2⟩ | ⟨a, h1, -⟩ | ⟨a, b, h1, -⟩
    · exact Or.inl ⟨hk, h1⟩
    · exact Or.inr ⟨a, h1⟩
    · exact Or.inr ⟨a, h1⟩
  rcases hcase with ⟨hk, h1⟩ | ⟨a, h1, ha⟩
  · have efe : mv h M w p q f (fe i) = some (iA (N i).ce fd) := k.mi (hfd hk) (by omega)
    have hF : va_cpy fd f 0 to (N i).ce = stp to (N i).ce (vI N wt i fd (fun j => f (fr + j)) (fun j => f (fr2 + j))) f := by
      rw [cpy_stp]
      refine stp_congr (fun j hj => ?_)
      rw [Nat.zero_add]
      unfold vI vNode
      rw [if_pos hk]
    refine rk_aload_n dM_compute_0 rfl ?_
    refine rk_getf fM_100 dM_compute_1 (by first | exact e1 | exact ei | exact efe | exact mv_ce | assumption) rfl ?_
    rw [h1]
    refine rk_iconst (v := -1) dM_compute_4 (by decide) ?_
    refine rk_icmp_ne 26 dM_compute_5 (by decide) (fun q_5 => ?_) (fun q_5 => ?_)
    · exact absurd rfl q_5
    · refine rk_aload_n dM_compute_8 rfl ?_
      refine rk_getf fM_103 dM_compute_9 (by first | exact e1 | exact ei | exact efe | exact mv_ce | assumption) rfl ?_
      refine rk_iconst (v := 0) dM_compute_12 (by decide) ?_
      rw [show (0 : Int32) = nI 0 from rfl]
      refine rk_aload_n dM_compute_13 rfl ?_
      refine rk_getf fM_15 dM_compute_14 (by first | exact e1 | exact ei | exact efe | exact mv_ce | assumption) rfl ?_
      refine rk_iload_n dM_compute_17 rfl ?_
      refine rk_aload_n dM_compute_18 rfl ?_
      refine rk_getf fM_71 dM_compute_19 (by first | exact e1 | exact ei | exact efe | exact mv_ce | assumption) rfl ?_
      refine rk_acpN jM_106 dM_compute_22 (by first | exact e1 | exact ei | exact efe | exact mv_ce | assumption) (by first | exact e1 | exact ei | exact efe | exact mv_ce | assumption) ⟨⟨by omega, by omega⟩, by omega, by omega⟩ (Nat.le_of_ble_eq_true rfl) (Nat.le_of_ble_eq_true rfl) ?_
      rw [mv_uce, hF]
      exact rk_ret rfl dM_compute_25 ⟨(Nat.le_of_ble_eq_true rfl), (Nat.le_of_ble_eq_true rfl)⟩ (⟨rfl, _, _, _, rfl⟩)
  · obtain ⟨⟨o1, o2, o3, o4⟩, o5, o6⟩ := ho1 a h1
    have hqa := (kg.2.1.2 a (by omega)).1
    have ea : mv h M w p q f (ad a) = some (oB 2 (nLi N fe a)) := k.mn (kg.2.1.2 a (by omega)).2
    have hba := (hwf.bd a (by omega))
    have hcea := hba.ce
    have hne : ¬ nI a = -1 := fun z => nI_pos (show a < 2 ^ 31 by omega) (by rw [z]; decide)
    have hsrc : srcO N i = N a := by unfold srcO; rw [h1]
    have hpa := (hwf a (by omega)).1.2.1
    have ag : ∀ z i2 : Nat, z < (N a).ce → i2 < (N i).ce → ∀ f' : Nat → Int32, (∀ j, (j < to ∨ to + i2 ≤ j) → f' j = f j) → f' (fr + z) = f (fr + z) := fun z i2 hz hi2 f' hf' => hf' _ (by omega)
    have hslide : winG (N i) (N a) → winK (N i) (N a) (ratA N i) → ((N i).kd = 1 ∨ (N i).c = (N a).c) → itf (G_win (N i) (N a) wt (ratA N i) fr) to (N i).ce f = stp to (N i).ce (vI N wt i fd (fun j => f (fr + j)) (fun j => f (fr2 + j))) f := by
      intro hG hK hc
      refine itf_stp (fun i2 hi2 f' hf' => ?_)
      have hkd : (N i).kd = 1 ∨ (N i).kd = 2 ∨ (N i).kd = 7 ∨ (N i).kd = 8 := by
        rcases hK with ⟨z, -⟩ | ⟨z, -⟩ | ⟨z, -⟩ | ⟨z, -⟩
        · exact Or.inl z
        · exact Or.inr (Or.inl z)
        · exact Or.inr (Or.inr (Or.inl z))
        · exact Or.inr (Or.inr (Or.inr z))
      unfold vI vNode
      rw [if_neg (by omega), if_neg (by omega), if_neg (by omega), if_neg (by omega), if_neg (by omega), if_neg (by omega), if_neg (by omega), hsrc]
      unfold G_win
      rw [v_win_sh (fr := fr)]
      refine v_win_congr rfl rfl ?_ (fun z hz => ag z i2 hz hi2 f' hf')
      rcases hc with hc | hc
      · exact Or.inl hc
      · right
        rw [← hc]
        exact Nat.mod_lt _ (by omega)
    rcases hkind with ⟨hk, h1', h2⟩ | ⟨a', ⟨h1', -⟩, h2, hkk⟩ | ⟨a', b, ⟨h1', -⟩, ⟨h2, hb⟩, hkk⟩
    · rw [h1] at h1'; cases h1'
    · rw [h1] at h1'
      cases h1'
      rcases hkk with ⟨hk, hG, hw, hgd⟩ | ⟨hk, hG, hcc, hw, hgd⟩ | ⟨hk, hhw, hw, hgd⟩ | ⟨hk, hcc, -⟩ | ⟨hk, hG, hcc, -⟩ | ⟨hk, hsh, -⟩ | ⟨hk, hsh, hgd⟩
      · have hK : winK (N i) (N a) (ratA N i) := Or.inl ⟨hk, hw, hba.1.2.2.2.1, hgd⟩
        have hF := hslide hG hK (Or.inl hk)
        refine rk_aload_n dM_compute_0 rfl ?_
        refine rk_getf fM_100 dM_compute_1 (by first | exact e1 | exact eg | exact esf | exact epl | exact ena | exact ei | exact ea | exact mv_ce | exact k.ms1 | assumption) rfl ?_
        rw [h1, show oI (some a) = nI a from rfl]
        refine rk_iconst (v := -1) dM_compute_4 (by decide) ?_
        refine rk_icmp_ne 26 dM_compute_5 (by decide) (fun q_5 => ?_) (fun q_5 => ?_)
        · refine rk_aload_n dM_compute_26 rfl ?_
          refine rk_getf fM_67 dM_compute_27 (by first | exact e1 | exact eg | exact esf | exact epl | exact ena | exact ei | exact ea | exact mv_ce | exact k.ms1 | assumption) rfl ?_
          refine rk_aload_n dM_compute_30 rfl ?_
          refine rk_getf fM_100 dM_compute_31 (by first | exact e1 | exact eg | exact esf | exact epl | exact ena | exact ei | exact ea | exact mv_ce | exact k.ms1 | assumption) rfl ?_
          rw [h1, show oI (some a) = nI a from rfl]
          refine rk_aald rfl dM_compute_34 (by first | exact e1 | exact eg | exact esf | exact epl | exact ena | exact ei | exact ea | exact mv_ce | exact k.ms1 | assumption) (vp_in_nI o1 (by omega)) (v_nd (by omega) hqa) ?_
          refine rk_astore dM_compute_35 (Nat.le_of_ble_eq_true rfl) ?_
          refine rk_aload_n dM_compute_37 rfl ?_
          refine rk_aload_n dM_compute_38 rfl ?_
          refine rk_getf fM_100 dM_compute_39 (by first | exact e1 | exact eg | exact esf | exact epl | exact ena | exact ei | exact ea | exact mv_ce | exact k.ms1 | assumption) rfl ?_
          rw [h1, show oI (some a) = nI a from rfl]
          refine rk_cvV (c_G_placeMeant gb A X a (S a) _ eg esf epl o1 o2 o3) cM_112 dM_compute_42 rfl lG_placeMeant (Nat.le_of_ble_eq_true rfl) (Nat.le_of_ble_eq_true rfl) (Nat.le_of_ble_eq_true rfl) (Nat.le_of_ble_eq_true rfl) (by first | exact e1 | exact eg | exact esf | exact epl | exact ena | exact ei | exact ea | exact mv_ce | exact k.ms1 | assumption) ?_
          rw [o4]
          refine rk_istore dM_compute_45 (Nat.le_of_ble_eq_true rfl) ?_
          refine rk_aload_n dM_compute_47 rfl ?_
          refine rk_getf fM_115 dM_compute_48 (by first | exact e1 | exact eg | exact esf | exact epl | exact ena | exact ei | exact ea | exact mv_ce | exact k.ms1 | assumption) rfl ?_
          rw [hk]
          refine rk_tableOut 192 dM_compute_51 (Or.inl (by decide)) (by decide) ?_
          refine rk_aload_n dM_compute_192 rfl ?_
          refine rk_aload_n dM_compute_193 rfl ?_
          refine rk_aload dM_compute_194 rfl ?_
          refine rk_iload dM_compute_196 rfl ?_
          refine rk_iload_n dM_compute_198 rfl ?_
          refine rk_cvG (c_M_slide a0 (ad i) (ad a) M (N i) (N a) (fe i) (fe a) (ratA N i) (ratB N i) (ratA N a) (ratB N a) fr to f wt h w p q k (kg.2.1.2 i hi).2 (kg.2.1.2 a (by omega)).2 hG.1 hbd.1.2.2.2.1 o5 hto hK) cM_136 dM_compute_199 rfl lM_slide (Nat.le_of_ble_eq_true rfl) (Nat.le_of_ble_eq_true rfl) (Nat.le_of_ble_eq_true rfl) (Nat.le_of_ble_eq_true rfl) (by first | exact e1 | exact eg | exact esf | exact epl | exact ena | exact ei | exact ea | exact mv_ce | exact k.ms1 | assumption) ?_
          rintro r_199 h_199 ⟨rfl, w1, p1', q1, rfl⟩
          refine rk_nx0 ?_
          rw [hF]
          exact rk_ret rfl dM_compute_202 ⟨(Nat.le_of_ble_eq_true rfl), (Nat.le_of_ble_eq_true rfl)⟩ (⟨rfl, _, _, _, rfl⟩)
        · exact absurd q_5 hne
      · have hK : winK (N i) (N a) (ratA N i) := Or.inr (Or.inl ⟨hk, hcc, hw, hgd⟩)
        have hF := hslide hG hK (Or.inr hcc)
        refine rk_aload_n dM_compute_0 rfl ?_
        refine rk_getf fM_100 dM_compute_1 (by first | exact e1 | exact eg | exact esf | exact epl | exact ena | exact ei | exact ea | exact mv_ce | exact k.ms1 | assumption) rfl ?_
        rw [h1, show oI (some a) = nI a from rfl]
        refine rk_iconst (v := -1) dM_compute_4 (by decide) ?_
        refine rk_icmp_ne 26 dM_compute_5 (by decide) (fun q_5 => ?_) (fun q_5 => ?_)
        · refine rk_aload_n dM_compute_26 rfl ?_
          refine rk_getf fM_67 dM_compute_27 (by first | exact e1 | exact eg | exact esf | exact epl | exact ena | exact ei | exact ea | exact mv_ce | exact k.ms1 | assumption) rfl ?_
          refine rk_aload_n dM_compute_30 rfl ?_
          refine rk_getf fM_100 dM_compute_31 (by first | exact e1 | exact eg | exact esf | exact epl | exact ena | exact ei | exact ea | exact mv_ce | exact k.ms1 | assumption) rfl ?_
          rw [h1, show oI (some a) = nI a from rfl]
          refine rk_aald rfl dM_compute_34 (by first | exact e1 | exact eg | exact esf | exact epl | exact ena | exact ei | exact ea | exact mv_ce | exact k.ms1 | assumption) (vp_in_nI o1 (by omega)) (v_nd (by omega) hqa) ?_
          refine rk_astore dM_compute_35 (Nat.le_of_ble_eq_true rfl) ?_
          refine rk_aload_n dM_compute_37 rfl ?_
          refine rk_aload_n dM_compute_38 rfl ?_
          refine rk_getf fM_100 dM_compute_39 (by first | exact e1 | exact eg | exact esf | exact epl | exact ena | exact ei | exact ea | exact mv_ce | exact k.ms1 | assumption) rfl ?_
          rw [h1, show oI (some a) = nI a from rfl]
          refine rk_cvV (c_G_placeMeant gb A X a (S a) _ eg esf epl o1 o2 o3) cM_112 dM_compute_42 rfl lG_placeMeant (Nat.le_of_ble_eq_true rfl) (Nat.le_of_ble_eq_true rfl) (Nat.le_of_ble_eq_true rfl) (Nat.le_of_ble_eq_true rfl) (by first | exact e1 | exact eg | exact esf | exact epl | exact ena | exact ei | exact ea | exact mv_ce | exact k.ms1 | assumption) ?_
          rw [o4]
          refine rk_istore dM_compute_45 (Nat.le_of_ble_eq_true rfl) ?_
          refine rk_aload_n dM_compute_47 rfl ?_
          refine rk_getf fM_115 dM_compute_48 (by first | exact e1 | exact eg | exact esf | exact epl | exact ena | exact ei | exact ea | exact mv_ce | exact k.ms1 | assumption) rfl ?_
          rw [hk]
          refine rk_tableOut 192 dM_compute_51 (Or.inl (by decide)) (by decide) ?_
          refine rk_aload_n dM_compute_192 rfl ?_
          refine rk_aload_n dM_compute_193 rfl ?_
          refine rk_aload dM_compute_194 rfl ?_
          refine rk_iload dM_compute_196 rfl ?_
          refine rk_iload_n dM_compute_198 rfl ?_
          refine rk_cvG (c_M_slide a0 (ad i) (ad a) M (N i) (N a) (fe i) (fe a) (ratA N i) (ratB N i) (ratA N a) (ratB N a) fr to f wt h w p q k (kg.2.1.2 i hi).2 (kg.2.1.2 a (by omega)).2 hG.1 hbd.1.2.2.2.1 o5 hto hK) cM_136 dM_compute_199 rfl lM_slide (Nat.le_of_ble_eq_true rfl) (Nat.le_of_ble_eq_true rfl) (Nat.le_of_ble_eq_true rfl) (Nat.le_of_ble_eq_true rfl) (by first | exact e1 | exact eg | exact esf | exact epl | exact ena | exact ei | exact ea | exact mv_ce | exact k.ms1 | assumption) ?_
          rintro r_199 h_199 ⟨rfl, w1, p1', q1, rfl⟩
          refine rk_nx0 ?_
          rw [hF]
          exact rk_ret rfl dM_compute_202 ⟨(Nat.le_of_ble_eq_true rfl), (Nat.le_of_ble_eq_true rfl)⟩ (⟨rfl, _, _, _, rfl⟩)
        · exact absurd q_5 hne
      · have hcn : (N i).ce = (N i).c := by unfold aN.ce; rw [hhw.1, hhw.2]; omega
        have hvc : M.wc ≠ M.ce := rk_neq (k.mwc (w := w) (p := p) (q := q) (f := f)) mv_ce (by intro q; cases q)
        have hF : itf (fun ch f => s_by (ratA N i) (g_con fr (N i).off (N a).ce (N i).c wt ch f)) to (N i).c f = stp to (N i).ce (vI N wt i fd (fun j => f (fr + j)) (fun j => f (fr2 + j))) f := by
          rw [hcn]
          refine itf_stp (fun i2 hi2 f' hf' => ?_)
          unfold vI vNode
          rw [if_neg (by omega), if_pos hk, hsrc]
          congr 1
          unfold g_con
          refine itr_congr (fun j h5 h6 s => ?_)
          rw [Nat.zero_add, ag j i2 (by omega) (by omega) f' hf']
        refine rk_aload_n dM_compute_0 rfl ?_
        refine rk_getf fM_100 dM_compute_1 (by first | exact e1 | exact eg | exact esf | exact epl | exact ena | exact ei | exact ea | exact mv_ce | exact k.ms1 | assumption) rfl ?_
        rw [h1, show oI (some a) = nI a from rfl]
        refine rk_iconst (v := -1) dM_compute_4 (by decide) ?_
        refine rk_icmp_ne 26 dM_compute_5 (by decide) (fun q_5 => ?_) (fun q_5 => ?_)
        · refine rk_aload_n dM_compute_26 rfl ?_
          refine rk_getf fM_67 dM_compute_27 (by first | exact e1 | exact eg | exact esf | exact epl | exact ena | exact ei | exact ea | exact mv_ce | exact k.ms1 | assumption) rfl ?_
          refine rk_aload_n dM_compute_30 rfl ?_
          refine rk_getf fM_100 dM_compute_31 (by first | exact e1 | exact eg | exact esf | exact epl | exact ena | exact ei | exact ea | exact mv_ce | exact k.ms1 | assumption) rfl ?_
          rw [h1, show oI (some a) = nI a from rfl]
          refine rk_aald rfl dM_compute_34 (by first | exact e1 | exact eg | exact esf | exact epl | exact ena | exact ei | exact ea | exact mv_ce | exact k.ms1 | assumption) (vp_in_nI o1 (by omega)) (v_nd (by omega) hqa) ?_
          refine rk_astore dM_compute_35 (Nat.le_of_ble_eq_true rfl) ?_
          refine rk_aload_n dM_compute_37 rfl ?_
          refine rk_aload_n dM_compute_38 rfl ?_
          refine rk_getf fM_100 dM_compute_39 (by first | exact e1 | exact eg | exact esf | exact epl | exact ena | exact ei | exact ea | exact mv_ce | exact k.ms1 | assumption) rfl ?_
          rw [h1, show oI (some a) = nI a from rfl]
          refine rk_cvV (c_G_placeMeant gb A X a (S a) _ eg esf epl o1 o2 o3) cM_112 dM_compute_42 rfl lG_placeMeant (Nat.le_of_ble_eq_true rfl) (Nat.le_of_ble_eq_true rfl) (Nat.le_of_ble_eq_true rfl) (Nat.le_of_ble_eq_true rfl) (by first | exact e1 | exact eg | exact esf | exact epl | exact ena | exact ei | exact ea | exact mv_ce | exact k.ms1 | assumption) ?_
          rw [o4]
          refine rk_istore dM_compute_45 (Nat.le_of_ble_eq_true rfl) ?_
          refine rk_aload_n dM_compute_47 rfl ?_
          refine rk_getf fM_115 dM_compute_48 (by first | exact e1 | exact eg | exact esf | exact epl | exact ena | exact ei | exact ea | exact mv_ce | exact k.ms1 | assumption) rfl ?_
          rw [hk]
          refine rk_tableIn (off := 45) 96 dM_compute_51 (by decide) (by decide) (by decide) (by decide) ?_
          refine rk_aload_n dM_compute_96 rfl ?_
          refine rk_aload_n dM_compute_97 rfl ?_
          refine rk_aload dM_compute_98 rfl ?_
          refine rk_iload dM_compute_100 rfl ?_
          refine rk_iload_n dM_compute_102 rfl ?_
          refine rk_cv0 (c_M_connect a0 (ad i) (ad a) M (N i) (N a) (fe i) (fe a) (ratA N i) (ratB N i) (ratA N a) (ratB N a) p.1 p.2 fr to f wt _ e1 ei ea mv_ce k.mwc k.ms1 hvc hgd o5 (by omega) hw) cM_118 dM_compute_103 rfl lM_connect (Nat.le_of_ble_eq_true rfl) (Nat.le_of_ble_eq_true rfl) (Nat.le_of_ble_eq_true rfl) (Nat.le_of_ble_eq_true rfl) (by first | exact e1 | exact eg | exact esf | exact epl | exact ena | exact ei | exact ea | exact mv_ce | exact k.ms1 | assumption) ?_
          rw [show oB 3 (sT (ratA N i)) = oB 3 (sL (s_mul (ratA N i)) (s_sh (ratA N i))) from rfl, k.us1, mv_uce, hF]
          refine rk_goto 202 dM_compute_106 (by decide) ?_
          exact rk_ret rfl dM_compute_202 ⟨(Nat.le_of_ble_eq_true rfl), (Nat.le_of_ble_eq_true rfl)⟩ (⟨rfl, _, _, _, rfl⟩)
        · exact absurd q_5 hne
      · have hF : va_cpy f f fr to (N i).ce = stp to (N i).ce (vI N wt i fd (fun j => f (fr + j)) (fun j => f (fr2 + j))) f := by
          rw [cpy_stp]
          refine stp_congr (fun j hj => ?_)
          unfold vI vNode
          rw [if_neg (by omega), if_neg (by omega), if_neg (by omega), if_neg (by omega), if_pos hk]
        refine rk_aload_n dM_compute_0 rfl ?_
        refine rk_getf fM_100 dM_compute_1 (by first | exact e1 | exact eg | exact esf | exact epl | exact ena | exact ei | exact ea | exact mv_ce | exact k.ms1 | assumption) rfl ?_
        rw [h1, show oI (some a) = nI a from rfl]
        refine rk_iconst (v := -1) dM_compute_4 (by decide) ?_
        refine rk_icmp_ne 26 dM_compute_5 (by decide) (fun q_5 => ?_) (fun q_5 => ?_)
        · refine rk_aload_n dM_compute_26 rfl ?_
          refine rk_getf fM_67 dM_compute_27 (by first | exact e1 | exact eg | exact esf | exact epl | exact ena | exact ei | exact ea | exact mv_ce | exact k.ms1 | assumption) rfl ?_
          refine rk_aload_n dM_compute_30 rfl ?_
          refine rk_getf fM_100 dM_compute_31 (by first | exact e1 | exact eg | exact esf | exact epl | exact ena | exact ei | exact ea | exact mv_ce | exact k.ms1 | assumption) rfl ?_
          rw [h1, show oI (some a) = nI a from rfl]
          refine rk_aald rfl dM_compute_34 (by first | exact e1 | exact eg | exact esf | exact epl | exact ena | exact ei | exact ea | exact mv_ce | exact k.ms1 | assumption) (vp_in_nI o1 (by omega)) (v_nd (by omega) hqa) ?_
          refine rk_astore dM_compute_35 (Nat.le_of_ble_eq_true rfl) ?_
          refine rk_aload_n dM_compute_37 rfl ?_
          refine rk_aload_n dM_compute_38 rfl ?_
          refine rk_getf fM_100 dM_compute_39 (by first | exact e1 | exact eg | exact esf | exact epl | exact ena | exact ei | exact ea | exact mv_ce | exact k.ms1 | assumption) rfl ?_
          rw [h1, show oI (some a) = nI a from rfl]
          refine rk_cvV (c_G_placeMeant gb A X a (S a) _ eg esf epl o1 o2 o3) cM_112 dM_compute_42 rfl lG_placeMeant (Nat.le_of_ble_eq_true rfl) (Nat.le_of_ble_eq_true rfl) (Nat.le_of_ble_eq_true rfl) (Nat.le_of_ble_eq_true rfl) (by first | exact e1 | exact eg | exact esf | exact epl | exact ena | exact ei | exact ea | exact mv_ce | exact k.ms1 | assumption) ?_
          rw [o4]
          refine rk_istore dM_compute_45 (Nat.le_of_ble_eq_true rfl) ?_
          refine rk_aload_n dM_compute_47 rfl ?_
          refine rk_getf fM_115 dM_compute_48 (by first | exact e1 | exact eg | exact esf | exact epl | exact ena | exact ei | exact ea | exact mv_ce | exact k.ms1 | assumption) rfl ?_
          rw [hk]
          refine rk_tableIn (off := 98) 149 dM_compute_51 (by decide) (by decide) (by decide) (by decide) ?_
          refine rk_aload_n dM_compute_149 rfl ?_
          refine rk_getf fM_15 dM_compute_150 (by first | exact e1 | exact eg | exact esf | exact epl | exact ena | exact ei | exact ea | exact mv_ce | exact k.ms1 | assumption) rfl ?_
          refine rk_iload dM_compute_153 rfl ?_
          refine rk_aload_n dM_compute_155 rfl ?_
          refine rk_getf fM_15 dM_compute_156 (by first | exact e1 | exact eg | exact esf | exact epl | exact ena | exact ei | exact ea | exact mv_ce | exact k.ms1 | assumption) rfl ?_
          refine rk_iload_n dM_compute_159 rfl ?_
          refine rk_aload_n dM_compute_160 rfl ?_
          refine rk_getf fM_71 dM_compute_161 (by first | exact e1 | exact eg | exact esf | exact epl | exact ena | exact ei | exact ea | exact mv_ce | exact k.ms1 | assumption) rfl ?_
          refine rk_acpN jM_106 dM_compute_164 (by first | exact e1 | exact eg | exact esf | exact epl | exact ena | exact ei | exact ea | exact mv_ce | exact k.ms1 | assumption) (by first | exact e1 | exact eg | exact esf | exact epl | exact ena | exact ei | exact ea | exact mv_ce | exact k.ms1 | assumption) ⟨⟨by omega, by omega⟩, by omega, by omega⟩ (Nat.le_of_ble_eq_true rfl) (Nat.le_of_ble_eq_true rfl) ?_
          rw [mv_uce, hF]
          refine rk_goto 202 dM_compute_167 (by decide) ?_
          exact rk_ret rfl dM_compute_202 ⟨(Nat.le_of_ble_eq_true rfl), (Nat.le_of_ble_eq_true rfl)⟩ (⟨rfl, _, _, _, rfl⟩)
        · exact absurd q_5 hne
      · rcases hk with hk | hk
        · have hK : winK (N i) (N a) (ratA N i) := Or.inr (Or.inr (Or.inl ⟨hk, hcc⟩))
          have hF := hslide hG hK (Or.inr hcc)
          refine rk_aload_n dM_compute_0 rfl ?_
          refine rk_getf fM_100 dM_compute_1 (by first | exact e1 | exact eg | exact esf | exact epl | exact ena | exact ei | exact ea | exact mv_ce | exact k.ms1 | assumption) rfl ?_
          rw [h1, show oI (some a) = nI a from rfl]
          refine rk_iconst (v := -1) dM_compute_4 (by decide) ?_
          refine rk_icmp_ne 26 dM_compute_5 (by decide) (fun q_5 => ?_) (fun q_5 => ?_)
          · refine rk_aload_n dM_compute_26 rfl ?_
            refine rk_getf fM_67 dM_compute_27 (by first | exact e1 | exact eg | exact esf | exact epl | exact ena | exact ei | exact ea | exact mv_ce | exact k.ms1 | assumption) rfl ?_
            refine rk_aload_n dM_compute_30 rfl ?_
            refine rk_getf fM_100 dM_compute_31 (by first | exact e1 | exact eg | exact esf | exact epl | exact ena | exact ei | exact ea | exact mv_ce | exact k.ms1 | assumption) rfl ?_
            rw [h1, show oI (some a) = nI a from rfl]
            refine rk_aald rfl dM_compute_34 (by first | exact e1 | exact eg | exact esf | exact epl | exact ena | exact ei | exact ea | exact mv_ce | exact k.ms1 | assumption) (vp_in_nI o1 (by omega)) (v_nd (by omega) hqa) ?_
            refine rk_astore dM_compute_35 (Nat.le_of_ble_eq_true rfl) ?_
            refine rk_aload_n dM_compute_37 rfl ?_
            refine rk_aload_n dM_compute_38 rfl ?_
            refine rk_getf fM_100 dM_compute_39 (by first | exact e1 | exact eg | exact esf | exact epl | exact ena | exact ei | exact ea | exact mv_ce | exact k.ms1 | assumption) rfl ?_
            rw [h1, show oI (some a) = nI a from rfl]
            refine rk_cvV (c_G_placeMeant gb A X a (S a) _ eg esf epl o1 o2 o3) cM_112 dM_compute_42 rfl lG_placeMeant (Nat.le_of_ble_eq_true rfl) (Nat.le_of_ble_eq_true rfl) (Nat.le_of_ble_eq_true rfl) (Nat.le_of_ble_eq_true rfl) (by first | exact e1 | exact eg | exact esf | exact epl | exact ena | exact ei | exact ea | exact mv_ce | exact k.ms1 | assumption) ?_
            rw [o4]
            refine rk_istore dM_compute_45 (Nat.le_of_ble_eq_true rfl) ?_
            refine rk_aload_n dM_compute_47 rfl ?_
            refine rk_getf fM_115 dM_compute_48 (by first | exact e1 | exact eg | exact esf | exact epl | exact ena | exact ei | exact ea | exact mv_ce | exact k.ms1 | assumption) rfl ?_
            rw [hk]
            refine rk_tableIn (off := 141) 192 dM_compute_51 (by decide) (by decide) (by decide) (by decide) ?_
            refine rk_aload_n dM_compute_192 rfl ?_
            refine rk_aload_n dM_compute_193 rfl ?_
            refine rk_aload dM_compute_194 rfl ?_
            refine rk_iload dM_compute_196 rfl ?_
            refine rk_iload_n dM_compute_198 rfl ?_
            refine rk_cvG (c_M_slide a0 (ad i) (ad a) M (N i) (N a) (fe i) (fe a) (ratA N i) (ratB N i) (ratA N a) (ratB N a) fr to f wt h w p q k (kg.2.1.2 i hi).2 (kg.2.1.2 a (by omega)).2 hG.1 hbd.1.2.2.2.1 o5 hto hK) cM_136 dM_compute_199 rfl lM_slide (Nat.le_of_ble_eq_true rfl) (Nat.le_of_ble_eq_true rfl) (Nat.le_of_ble_eq_true rfl) (Nat.le_of_ble_eq_true rfl) (by first | exact e1 | exact eg | exact esf | exact epl | exact ena | exact ei | exact ea | exact mv_ce | exact k.ms1 | assumption) ?_
            rintro r_199 h_199 ⟨rfl, w1, p1', q1, rfl⟩
            refine rk_nx0 ?_
            rw [hF]
            exact rk_ret rfl dM_compute_202 ⟨(Nat.le_of_ble_eq_true rfl), (Nat.le_of_ble_eq_true rfl)⟩ (⟨rfl, _, _, _, rfl⟩)
          · exact absurd q_5 hne
        · have hK : winK (N i) (N a) (ratA N i) := Or.inr (Or.inr (Or.inr ⟨hk, hcc⟩))
          have hF := hslide hG hK (Or.inr hcc)
          refine rk_aload_n dM_compute_0 rfl ?_
          refine rk_getf fM_100 dM_compute_1 (by first | exact e1 | exact eg | exact esf | exact epl | exact ena | exact ei | exact ea | exact mv_ce | exact k.ms1 | assumption) rfl ?_
          rw [h1, show oI (some a) = nI a from rfl]
          refine rk_iconst (v := -1) dM_compute_4 (by decide) ?_
          refine rk_icmp_ne 26 dM_compute_5 (by decide) (fun q_5 => ?_) (fun q_5 => ?_)
          · refine rk_aload_n dM_compute_26 rfl ?_
            refine rk_getf fM_67 dM_compute_27 (by first | exact e1 | exact eg | exact esf | exact epl | exact ena | exact ei | exact ea | exact mv_ce | exact k.ms1 | assumption) rfl ?_
            refine rk_aload_n dM_compute_30 rfl ?_
            refine rk_getf fM_100 dM_compute_31 (by first | exact e1 | exact eg | exact esf | exact epl | exact ena | exact ei | exact ea | exact mv_ce | exact k.ms1 | assumption) rfl ?_
            rw [h1, show oI (some a) = nI a from rfl]
            refine rk_aald rfl dM_compute_34 (by first | exact e1 | exact eg | exact esf | exact epl | exact ena | exact ei | exact ea | exact mv_ce | exact k.ms1 | assumption) (vp_in_nI o1 (by omega)) (v_nd (by omega) hqa) ?_
            refine rk_astore dM_compute_35 (Nat.le_of_ble_eq_true rfl) ?_
            refine rk_aload_n dM_compute_37 rfl ?_
            refine rk_aload_n dM_compute_38 rfl ?_
            refine rk_getf fM_100 dM_compute_39 (by first | exact e1 | exact eg | exact esf | exact epl | exact ena | exact ei | exact ea | exact mv_ce | exact k.ms1 | assumption) rfl ?_
            rw [h1, show oI (some a) = nI a from rfl]
            refine rk_cvV (c_G_placeMeant gb A X a (S a) _ eg esf epl o1 o2 o3) cM_112 dM_compute_42 rfl lG_placeMeant (Nat.le_of_ble_eq_true rfl) (Nat.le_of_ble_eq_true rfl) (Nat.le_of_ble_eq_true rfl) (Nat.le_of_ble_eq_true rfl) (by first | exact e1 | exact eg | exact esf | exact epl | exact ena | exact ei | exact ea | exact mv_ce | exact k.ms1 | assumption) ?_
            rw [o4]
            refine rk_istore dM_compute_45 (Nat.le_of_ble_eq_true rfl) ?_
            refine rk_aload_n dM_compute_47 rfl ?_
            refine rk_getf fM_115 dM_compute_48 (by first | exact e1 | exact eg | exact esf | exact epl | exact ena | exact ei | exact ea | exact mv_ce | exact k.ms1 | assumption) rfl ?_
            rw [hk]
            refine rk_tableIn (off := 141) 192 dM_compute_51 (by decide) (by decide) (by decide) (by decide) ?_
            refine rk_aload_n dM_compute_192 rfl ?_
            refine rk_aload_n dM_compute_193 rfl ?_
            refine rk_aload dM_compute_194 rfl ?_
            refine rk_iload dM_compute_196 rfl ?_
            refine rk_iload_n dM_compute_198 rfl ?_
            refine rk_cvG (c_M_slide a0 (ad i) (ad a) M (N i) (N a) (fe i) (fe a) (ratA N i) (ratB N i) (ratA N a) (ratB N a) fr to f wt h w p q k (kg.2.1.2 i hi).2 (kg.2.1.2 a (by omega)).2 hG.1 hbd.1.2.2.2.1 o5 hto hK) cM_136 dM_compute_199 rfl lM_slide (Nat.le_of_ble_eq_true rfl) (Nat.le_of_ble_eq_true rfl) (Nat.le_of_ble_eq_true rfl) (Nat.le_of_ble_eq_true rfl) (by first | exact e1 | exact eg | exact esf | exact epl | exact ena | exact ei | exact ea | exact mv_ce | exact k.ms1 | assumption) ?_
            rintro r_199 h_199 ⟨rfl, w1, p1', q1, rfl⟩
            refine rk_nx0 ?_
            rw [hF]
            exact rk_ret rfl dM_compute_202 ⟨(Nat.le_of_ble_eq_true rfl), (Nat.le_of_ble_eq_true rfl)⟩ (⟨rfl, _, _, _, rfl⟩)
          · exact absurd q_5 hne
      · have hce2 := (shq_ce hsh).2
        have hF : itf (g_hold (N i).lo (N i).hi fr) to (N i).ce f = stp to (N i).ce (vI N wt i fd (fun j => f (fr + j)) (fun j => f (fr2 + j))) f := by
          refine itf_stp (fun i2 hi2 f' hf' => ?_)
          unfold vI vNode g_hold
          rw [if_neg (by omega), if_neg (by omega), if_neg (by omega), if_neg (by omega), if_neg (by omega), if_pos hk, ag i2 i2 (by omega) hi2 f' hf']
        refine rk_aload_n dM_compute_0 rfl ?_
        refine rk_getf fM_100 dM_compute_1 (by first | exact e1 | exact eg | exact esf | exact epl | exact ena | exact ei | exact ea | exact mv_ce | exact k.ms1 | assumption) rfl ?_
        rw [h1, show oI (some a) = nI a from rfl]
        refine rk_iconst (v := -1) dM_compute_4 (by decide) ?_
        refine rk_icmp_ne 26 dM_compute_5 (by decide) (fun q_5 => ?_) (fun q_5 => ?_)
        · refine rk_aload_n dM_compute_26 rfl ?_
          refine rk_getf fM_67 dM_compute_27 (by first | exact e1 | exact eg | exact esf | exact epl | exact ena | exact ei | exact ea | exact mv_ce | exact k.ms1 | assumption) rfl ?_
          refine rk_aload_n dM_compute_30 rfl ?_
          refine rk_getf fM_100 dM_compute_31 (by first | exact e1 | exact eg | exact esf | exact epl | exact ena | exact ei | exact ea | exact mv_ce | exact k.ms1 | assumption) rfl ?_
          rw [h1, show oI (some a) = nI a from rfl]
          refine rk_aald rfl dM_compute_34 (by first | exact e1 | exact eg | exact esf | exact epl | exact ena | exact ei | exact ea | exact mv_ce | exact k.ms1 | assumption) (vp_in_nI o1 (by omega)) (v_nd (by omega) hqa) ?_
          refine rk_astore dM_compute_35 (Nat.le_of_ble_eq_true rfl) ?_
          refine rk_aload_n dM_compute_37 rfl ?_
          refine rk_aload_n dM_compute_38 rfl ?_
          refine rk_getf fM_100 dM_compute_39 (by first | exact e1 | exact eg | exact esf | exact epl | exact ena | exact ei | exact ea | exact mv_ce | exact k.ms1 | assumption) rfl ?_
          rw [h1, show oI (some a) = nI a from rfl]
          refine rk_cvV (c_G_placeMeant gb A X a (S a) _ eg esf epl o1 o2 o3) cM_112 dM_compute_42 rfl lG_placeMeant (Nat.le_of_ble_eq_true rfl) (Nat.le_of_ble_eq_true rfl) (Nat.le_of_ble_eq_true rfl) (Nat.le_of_ble_eq_true rfl) (by first | exact e1 | exact eg | exact esf | exact epl | exact ena | exact ei | exact ea | exact mv_ce | exact k.ms1 | assumption) ?_
          rw [o4]
          refine rk_istore dM_compute_45 (Nat.le_of_ble_eq_true rfl) ?_
          refine rk_aload_n dM_compute_47 rfl ?_
          refine rk_getf fM_115 dM_compute_48 (by first | exact e1 | exact eg | exact esf | exact epl | exact ena | exact ei | exact ea | exact mv_ce | exact k.ms1 | assumption) rfl ?_
          rw [hk]
          refine rk_tableIn (off := 119) 170 dM_compute_51 (by decide) (by decide) (by decide) (by decide) ?_
          refine rk_aload_n dM_compute_170 rfl ?_
          refine rk_aload_n dM_compute_171 rfl ?_
          refine rk_iload dM_compute_172 rfl ?_
          refine rk_iload_n dM_compute_174 rfl ?_
          refine rk_cv0 (c_M_hold a0 (ad i) M (nMi N fe i) (N i).ce fr to f _ e1 ei mv_ce hac hbc rfl (by omega) hto) cM_96 dM_compute_175 rfl lM_hold (Nat.le_of_ble_eq_true rfl) (Nat.le_of_ble_eq_true rfl) (Nat.le_of_ble_eq_true rfl) (Nat.le_of_ble_eq_true rfl) (by first | exact e1 | exact eg | exact esf | exact epl | exact ena | exact ei | exact ea | exact mv_ce | exact k.ms1 | assumption) ?_
          rw [mv_uce, show itf (g_hold (nMi N fe i).lo (nMi N fe i).hi fr) to (N i).ce f = _ from hF]
          refine rk_goto 202 dM_compute_178 (by decide) ?_
          exact rk_ret rfl dM_compute_202 ⟨(Nat.le_of_ble_eq_true rfl), (Nat.le_of_ble_eq_true rfl)⟩ (⟨rfl, _, _, _, rfl⟩)
        · exact absurd q_5 hne
      · have hce2 := (shq_ce hsh).2
        have hF : itf (fun i2 f => s_by (ratA N i) (f (fr + i2))) to (N i).ce f = stp to (N i).ce (vI N wt i fd (fun j => f (fr + j)) (fun j => f (fr2 + j))) f := by
          refine itf_stp (fun i2 hi2 f' hf' => ?_)
          unfold vI vNode
          rw [if_neg (by omega), if_neg (by omega), if_neg (by omega), if_neg (by omega), if_neg (by omega), if_neg (by omega), if_pos hk, ag i2 i2 (by omega) hi2 f' hf']
        refine rk_aload_n dM_compute_0 rfl ?_
        refine rk_getf fM_100 dM_compute_1 (by first | exact e1 | exact eg | exact esf | exact epl | exact ena | exact ei | exact ea | exact mv_ce | exact k.ms1 | assumption) rfl ?_
        rw [h1, show oI (some a) = nI a from rfl]
        refine rk_iconst (v := -1) dM_compute_4 (by decide) ?_
        refine rk_icmp_ne 26 dM_compute_5 (by decide) (fun q_5 => ?_) (fun q_5 => ?_)
        · refine rk_aload_n dM_compute_26 rfl ?_
          refine rk_getf fM_67 dM_compute_27 (by first | exact e1 | exact eg | exact esf | exact epl | exact ena | exact ei | exact ea | exact mv_ce | exact k.ms1 | assumption) rfl ?_
          refine rk_aload_n dM_compute_30 rfl ?_
          refine rk_getf fM_100 dM_compute_31 (by first | exact e1 | exact eg | exact esf | exact epl | exact ena | exact ei | exact ea | exact mv_ce | exact k.ms1 | assumption) rfl ?_
          rw [h1, show oI (some a) = nI a from rfl]
          refine rk_aald rfl dM_compute_34 (by first | exact e1 | exact eg | exact esf | exact epl | exact ena | exact ei | exact ea | exact mv_ce | exact k.ms1 | assumption) (vp_in_nI o1 (by omega)) (v_nd (by omega) hqa) ?_
          refine rk_astore dM_compute_35 (Nat.le_of_ble_eq_true rfl) ?_
          refine rk_aload_n dM_compute_37 rfl ?_
          refine rk_aload_n dM_compute_38 rfl ?_
          refine rk_getf fM_100 dM_compute_39 (by first | exact e1 | exact eg | exact esf | exact epl | exact ena | exact ei | exact ea | exact mv_ce | exact k.ms1 | assumption) rfl ?_
          rw [h1, show oI (some a) = nI a from rfl]
          refine rk_cvV (c_G_placeMeant gb A X a (S a) _ eg esf epl o1 o2 o3) cM_112 dM_compute_42 rfl lG_placeMeant (Nat.le_of_ble_eq_true rfl) (Nat.le_of_ble_eq_true rfl) (Nat.le_of_ble_eq_true rfl) (Nat.le_of_ble_eq_true rfl) (by first | exact e1 | exact eg | exact esf | exact epl | exact ena | exact ei | exact ea | exact mv_ce | exact k.ms1 | assumption) ?_
          rw [o4]
          refine rk_istore dM_compute_45 (Nat.le_of_ble_eq_true rfl) ?_
          refine rk_aload_n dM_compute_47 rfl ?_
          refine rk_getf fM_115 dM_compute_48 (by first | exact e1 | exact eg | exact esf | exact epl | exact ena | exact ei | exact ea | exact mv_ce | exact k.ms1 | assumption) rfl ?_
          rw [hk]
          refine rk_tableIn (off := 130) 181 dM_compute_51 (by decide) (by decide) (by decide) (by decide) ?_
          refine rk_aload_n dM_compute_181 rfl ?_
          refine rk_aload_n dM_compute_182 rfl ?_
          refine rk_iload dM_compute_183 rfl ?_
          refine rk_iload_n dM_compute_185 rfl ?_
          refine rk_cv0 (c_M_changeScale a0 (ad i) M (N i) (fe i) (ratA N i) (ratB N i) p.1 p.2 fr to f _ e1 ei mv_ce k.ms1 hgd (by omega) hto) cM_133 dM_compute_186 rfl lM_changeScale (Nat.le_of_ble_eq_true rfl) (Nat.le_of_ble_eq_true rfl) (Nat.le_of_ble_eq_true rfl) (Nat.le_of_ble_eq_true rfl) (by first | exact e1 | exact eg | exact esf | exact epl | exact ena | exact ei | exact ea | exact mv_ce | exact k.ms1 | assumption) ?_
          rw [show oB 3 (sT (ratA N i)) = oB 3 (sL (s_mul (ratA N i)) (s_sh (ratA N i))) from rfl, k.us1, mv_uce, hF]
          refine rk_goto 202 dM_compute_189 (by decide) ?_
          exact rk_ret rfl dM_compute_202 ⟨(Nat.le_of_ble_eq_true rfl), (Nat.le_of_ble_eq_true rfl)⟩ (⟨rfl, _, _, _, rfl⟩)
        · exact absurd q_5 hne
    · rw [h1] at h1'
      cases h1'
      obtain ⟨⟨u1, u2, u3, u4⟩, u5, u6⟩ := ho2 b h2
      have hcb := (hwf.bd b (by omega)).ce
      have ag2 : ∀ z i2 : Nat, z < (N b).ce → i2 < (N i).ce → ∀ f' : Nat → Int32, (∀ j, (j < to ∨ to + i2 ≤ j) → f' j = f j) → f' (fr2 + z) = f (fr2 + z) := fun z i2 hz hi2 f' hf' => hf' _ (by omega)
      rcases hkk with ⟨hk, hs1, hs2, hg1, hg2⟩ | ⟨hk, ⟨c1, c2, c3, c4⟩, hcc, -⟩
      · have hc1 := (shq_ce hs1).2
        have hc2 := (shq_ce hs2).2
        have hF : itf (fun i2 f => s_add (ratA N i) (ratB N i) (f (fr + i2)) (f (fr2 + i2))) to (N i).ce f = stp to (N i).ce (vI N wt i fd (fun j => f (fr + j)) (fun j => f (fr2 + j))) f := by
          refine itf_stp (fun i2 hi2 f' hf' => ?_)
          unfold vI vNode
          rw [if_neg (by omega), if_neg (by omega), if_pos hk, ag i2 i2 (by omega) hi2 f' hf', ag2 i2 i2 (by omega) hi2 f' hf']
        refine rk_aload_n dM_compute_0 rfl ?_
        refine rk_getf fM_100 dM_compute_1 (by first | exact e1 | exact eg | exact esf | exact epl | exact ena | exact ei | exact ea | exact mv_ce | exact k.ms1 | assumption) rfl ?_
        rw [h1, show oI (some a) = nI a from rfl]
        refine rk_iconst (v := -1) dM_compute_4 (by decide) ?_
        refine rk_icmp_ne 26 dM_compute_5 (by decide) (fun q_5 => ?_) (fun q_5 => ?_)
        · refine rk_aload_n dM_compute_26 rfl ?_
          refine rk_getf fM_67 dM_compute_27 (by first | exact e1 | exact eg | exact esf | exact epl | exact ena | exact ei | exact ea | exact mv_ce | exact k.ms1 | assumption) rfl ?_
          refine rk_aload_n dM_compute_30 rfl ?_
          refine rk_getf fM_100 dM_compute_31 (by first | exact e1 | exact eg | exact esf | exact epl | exact ena | exact ei | exact ea | exact mv_ce | exact k.ms1 | assumption) rfl ?_
          rw [h1, show oI (some a) = nI a from rfl]
          refine rk_aald rfl dM_compute_34 (by first | exact e1 | exact eg | exact esf | exact epl | exact ena | exact ei | exact ea | exact mv_ce | exact k.ms1 | assumption) (vp_in_nI o1 (by omega)) (v_nd (by omega) hqa) ?_
          refine rk_astore dM_compute_35 (Nat.le_of_ble_eq_true rfl) ?_
          refine rk_aload_n dM_compute_37 rfl ?_
          refine rk_aload_n dM_compute_38 rfl ?_
          refine rk_getf fM_100 dM_compute_39 (by first | exact e1 | exact eg | exact esf | exact epl | exact ena | exact ei | exact ea | exact mv_ce | exact k.ms1 | assumption) rfl ?_
          rw [h1, show oI (some a) = nI a from rfl]
          refine rk_cvV (c_G_placeMeant gb A X a (S a) _ eg esf epl o1 o2 o3) cM_112 dM_compute_42 rfl lG_placeMeant (Nat.le_of_ble_eq_true rfl) (Nat.le_of_ble_eq_true rfl) (Nat.le_of_ble_eq_true rfl) (Nat.le_of_ble_eq_true rfl) (by first | exact e1 | exact eg | exact esf | exact epl | exact ena | exact ei | exact ea | exact mv_ce | exact k.ms1 | assumption) ?_
          rw [o4]
          refine rk_istore dM_compute_45 (Nat.le_of_ble_eq_true rfl) ?_
          refine rk_aload_n dM_compute_47 rfl ?_
          refine rk_getf fM_115 dM_compute_48 (by first | exact e1 | exact eg | exact esf | exact epl | exact ena | exact ei | exact ea | exact mv_ce | exact k.ms1 | assumption) rfl ?_
          rw [hk]
          refine rk_tableIn (off := 58) 109 dM_compute_51 (by decide) (by decide) (by decide) (by decide) ?_
          refine rk_aload_n dM_compute_109 rfl ?_
          refine rk_aload_n dM_compute_110 rfl ?_
          refine rk_iload dM_compute_111 rfl ?_
          refine rk_aload_n dM_compute_113 rfl ?_
          refine rk_aload_n dM_compute_114 rfl ?_
          refine rk_getf fM_122 dM_compute_115 (by first | exact e1 | exact eg | exact esf | exact epl | exact ena | exact ei | exact ea | exact mv_ce | exact k.ms1 | assumption) rfl ?_
          rw [h2, show oI (some b) = nI b from rfl]
          refine rk_cvV (c_G_placeMeant gb A X b (S b) _ eg esf epl u1 u2 u3) cM_112 dM_compute_118 rfl lG_placeMeant (Nat.le_of_ble_eq_true rfl) (Nat.le_of_ble_eq_true rfl) (Nat.le_of_ble_eq_true rfl) (Nat.le_of_ble_eq_true rfl) (by first | exact e1 | exact eg | exact esf | exact epl | exact ena | exact ei | exact ea | exact mv_ce | exact k.ms1 | assumption) ?_
          rw [u4]
          refine rk_iload_n dM_compute_121 rfl ?_
          refine rk_cv0 (c_M_addUp a0 (ad i) M (N i) (fe i) (ratA N i) (ratB N i) p.1 q.1 p.2 q.2 fr fr2 to f _ e1 ei mv_ce k.ms1 k.ms2 k.2.2 hg1 hg2 (by omega) (by omega) hto) cM_125 dM_compute_122 rfl lM_addUp (Nat.le_of_ble_eq_true rfl) (Nat.le_of_ble_eq_true rfl) (Nat.le_of_ble_eq_true rfl) (Nat.le_of_ble_eq_true rfl) (by first | exact e1 | exact eg | exact esf | exact epl | exact ena | exact ei | exact ea | exact mv_ce | exact k.ms1 | assumption) ?_
          rw [show oB 3 (sT (ratA N i)) = oB 3 (sL (s_mul (ratA N i)) (s_sh (ratA N i))) from rfl, show oB 3 (sT (ratB N i)) = oB 3 (sL (s_mul (ratB N i)) (s_sh (ratB N i))) from rfl, k.us1, k.us2, mv_uce, hF]
          refine rk_goto 202 dM_compute_125 (by decide) ?_
          exact rk_ret rfl dM_compute_202 ⟨(Nat.le_of_ble_eq_true rfl), (Nat.le_of_ble_eq_true rfl)⟩ (⟨rfl, _, _, _, rfl⟩)
        · exact absurd q_5 hne
      · have q1 : (N a).ce = (N i).h * (N i).w * (N a).c := by unfold aN.ce; rw [c1, c2]
        have q2 : (N b).ce = (N i).h * (N i).w * (N b).c := by unfold aN.ce; rw [c3, c4]
        have hF : itr (g_join fr fr2 to (N a).c (N b).c (N i).c) ((N i).h * (N i).w) 0 f = stp to (N i).ce (vI N wt i fd (fun j => f (fr + j)) (fun j => f (fr2 + j))) f := by
          rw [join_stp hcc (by omega) (by omega) (by omega)]
          refine stp_congr (fun j hj => ?_)
          unfold vI vNode
          rw [if_neg (show ¬ (N i).kd = 0 by omega), if_neg (show ¬ (N i).kd = 3 by omega), if_neg (show ¬ (N i).kd = 4 by omega), if_pos hk, hsrc, show (N i).c - (N a).c = (N b).c by omega]
        have hsz : (N i).h * (N i).w ≤ 4 * 4 := Nat.mul_le_mul hbd.1.2.1 hbd.1.2.2.1
        refine rk_aload_n dM_compute_0 rfl ?_
        refine rk_getf fM_100 dM_compute_1 (by first | exact e1 | exact eg | exact esf | exact epl | exact ena | exact ei | exact ea | exact mv_ce | exact k.ms1 | assumption) rfl ?_
        rw [h1, show oI (some a) = nI a from rfl]
        refine rk_iconst (v := -1) dM_compute_4 (by decide) ?_
        refine rk_icmp_ne 26 dM_compute_5 (by decide) (fun q_5 => ?_) (fun q_5 => ?_)
        · refine rk_aload_n dM_compute_26 rfl ?_
          refine rk_getf fM_67 dM_compute_27 (by first | exact e1 | exact eg | exact esf | exact epl | exact ena | exact ei | exact ea | exact mv_ce | exact k.ms1 | assumption) rfl ?_
          refine rk_aload_n dM_compute_30 rfl ?_
          refine rk_getf fM_100 dM_compute_31 (by first | exact e1 | exact eg | exact esf | exact epl | exact ena | exact ei | exact ea | exact mv_ce | exact k.ms1 | assumption) rfl ?_
          rw [h1, show oI (some a) = nI a from rfl]
          refine rk_aald rfl dM_compute_34 (by first | exact e1 | exact eg | exact esf | exact epl | exact ena | exact ei | exact ea | exact mv_ce | exact k.ms1 | assumption) (vp_in_nI o1 (by omega)) (v_nd (by omega) hqa) ?_
          refine rk_astore dM_compute_35 (Nat.le_of_ble_eq_true rfl) ?_
          refine rk_aload_n dM_compute_37 rfl ?_
          refine rk_aload_n dM_compute_38 rfl ?_
          refine rk_getf fM_100 dM_compute_39 (by first | exact e1 | exact eg | exact esf | exact epl | exact ena | exact ei | exact ea | exact mv_ce | exact k.ms1 | assumption) rfl ?_
          rw [h1, show oI (some a) = nI a from rfl]
          refine rk_cvV (c_G_placeMeant gb A X a (S a) _ eg esf epl o1 o2 o3) cM_112 dM_compute_42 rfl lG_placeMeant (Nat.le_of_ble_eq_true rfl) (Nat.le_of_ble_eq_true rfl) (Nat.le_of_ble_eq_true rfl) (Nat.le_of_ble_eq_true rfl) (by first | exact e1 | exact eg | exact esf | exact epl | exact ena | exact ei | exact ea | exact mv_ce | exact k.ms1 | assumption) ?_
          rw [o4]
          refine rk_istore dM_compute_45 (Nat.le_of_ble_eq_true rfl) ?_
          refine rk_aload_n dM_compute_47 rfl ?_
          refine rk_getf fM_115 dM_compute_48 (by first | exact e1 | exact eg | exact esf | exact epl | exact ena | exact ei | exact ea | exact mv_ce | exact k.ms1 | assumption) rfl ?_
          rw [hk]
          refine rk_tableIn (off := 77) 128 dM_compute_51 (by decide) (by decide) (by decide) (by decide) ?_
          refine rk_aload_n dM_compute_128 rfl ?_
          refine rk_aload_n dM_compute_129 rfl ?_
          refine rk_aload dM_compute_130 rfl ?_
          refine rk_iload dM_compute_132 rfl ?_
          refine rk_aload_n dM_compute_134 rfl ?_
          refine rk_aload_n dM_compute_135 rfl ?_
          refine rk_getf fM_122 dM_compute_136 (by first | exact e1 | exact eg | exact esf | exact epl | exact ena | exact ei | exact ea | exact mv_ce | exact k.ms1 | assumption) rfl ?_
          rw [h2, show oI (some b) = nI b from rfl]
          refine rk_cvV (c_G_placeMeant gb A X b (S b) _ eg esf epl u1 u2 u3) cM_112 dM_compute_139 rfl lG_placeMeant (Nat.le_of_ble_eq_true rfl) (Nat.le_of_ble_eq_true rfl) (Nat.le_of_ble_eq_true rfl) (Nat.le_of_ble_eq_true rfl) (by first | exact e1 | exact eg | exact esf | exact epl | exact ena | exact ei | exact ea | exact mv_ce | exact k.ms1 | assumption) ?_
          rw [u4]
          refine rk_iload_n dM_compute_142 rfl ?_
          refine rk_cv0 (c_M_join a0 (ad i) (ad a) M (N i) (N a) (fe i) (fe a) (ratA N i) (ratB N i) (ratA N a) (ratB N a) (N b).c fr fr2 to f _ e1 ei ea mv_ce hcc (by omega) (by omega) hto (by omega)) cM_129 dM_compute_143 rfl lM_join (Nat.le_of_ble_eq_true rfl) (Nat.le_of_ble_eq_true rfl) (Nat.le_of_ble_eq_true rfl) (Nat.le_of_ble_eq_true rfl) (by first | exact e1 | exact eg | exact esf | exact epl | exact ena | exact ei | exact ea | exact mv_ce | exact k.ms1 | assumption) ?_
          rw [mv_uce, hF]
          refine rk_goto 202 dM_compute_146 (by decide) ?_
          exact rk_ret rfl dM_compute_202 ⟨(Nat.le_of_ble_eq_true rfl), (Nat.le_of_ble_eq_true rfl)⟩ (⟨rfl, _, _, _, rfl⟩)
        · exact absurd q_5 hne
