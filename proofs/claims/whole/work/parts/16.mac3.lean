/-! Machine: addUp, connect, join -/
section RKN
variable {M : rk_M} {B : rk_B} {P : rk_P} {pc idx : Nat} {lv : List (Option Value)} {st : List Value} {h : rk_H} {u : rk_U}
theorem rk_acpN {a0 a n0 n1 : Nat} {f g : Nat → Int32} {sp dp n : Nat} (hw : Cond.methodLink M.1.cls idx arraycopyName ∈ rk_tbl) (hd : decode M.2.1 pc = .ok (.invokestatic idx, 3)) (he0 : h a0 = some (.inl (0, n0, .inl f))) (he1 : h a = some (.inl (0, n1, .inl g))) (hh : (sp + n ≤ n0 ∧ dp + n ≤ n1) ∧ n0 < 2 ^ 31 ∧ n1 < 2 ^ 31) (hf1 : 1 ≤ B.1) (hst : (st.map fun v => v.category).sum + 18 ≤ B.2.1)
    (r : rk_Run M B P (pc + 3) lv st (rk_up h a (.inl (0, n1, .inl (va_cpy f g sp dp n)))) u) : rk_Run M B P pc lv (.int (nI n) :: .int (nI dp) :: .ref a :: .int (nI sp) :: .ref a0 :: st) h u := by
  obtain ⟨⟨h1, h2⟩, h3, h4⟩ := hh
  have e1 := nI_clamp (show sp < 2 ^ 31 by omega)
  have e2 := nI_clamp (show dp < 2 ^ 31 by omega)
  have e3 := nI_clamp (show n < 2 ^ 31 by omega)
  refine rk_acp hw hd he0 he1 (nI_pos (by omega)) (nI_pos (by omega)) (nI_pos (by omega)) (by rw [e1, e3]; exact h1) (by rw [e2, e3]; exact h2) hf1 hst ?_
  rw [e1, e2, e3]
  exact r
end RKN
def s_add (ra ro : UInt64) (x y : Int32) : Int32 := s_cut (s_scl (s_mul ra) (s_sh ra) x + s_scl (s_mul ro) (s_sh ro) y)
theorem c_M_addUp (a b : Nat) (M : mR) (x : aN) (fe : Nat) (ra ro : UInt64) (m0 m1 : Int64) (sh0 sh1 : Int32) (fr fr2 to : Nat) (f : Nat → Int32) (h : rk_H) (ha : h a = some (oB 1 M.ls)) (hb : h b = some (oB 2 (nL x fe ra ro))) (hc : h M.ce = some (iA 1792 f)) (hs : h M.s1 = some (oB 3 (sL m0 sh0))) (hs2 : h M.s2 = some (oB 3 (sL m1 sh1))) (h12 : M.s1 ≠ M.s2) (hr : d_good ra = true) (hr2 : d_good ro = true) (h1 : fr + x.ce ≤ 1792) (h1' : fr2 + x.ce ≤ 1792) (h2 : to + x.ce ≤ 1792) :
    rk_Con mM_addUp (2, 39, 0, 0) [.ref a, .ref b, .int (nI fr), .int (nI fr2), .int (nI to)] h (rk_R0 (rk_up (rk_up (rk_up h M.s1 (oB 3 (sT ra))) M.s2 (oB 3 (sT ro))) M.ce (iA 1792 (itf (fun i f => s_add ra ro (f (fr + i)) (f (fr2 + i))) to x.ce f)))) := by
  have ha1 : a ≠ M.s1 := rk_neq ha hs (by intro q; cases q)
  have hb1 : b ≠ M.s1 := rk_neq hb hs (by intro q; cases q)
  have hc1 : M.ce ≠ M.s1 := rk_neq hc hs (by intro q; cases q)
  have ha2 : a ≠ M.s2 := rk_neq ha hs2 (by intro q; cases q)
  have hb2 : b ≠ M.s2 := rk_neq hb hs2 (by intro q; cases q)
  have hc2 : M.ce ≠ M.s2 := rk_neq hc hs2 (by intro q; cases q)
  have hac : a ≠ M.ce := rk_neq ha hc (by intro q; cases q)
  have hbc : b ≠ M.ce := rk_neq hb hc (by intro q; cases q)
  have hsc : M.s1 ≠ M.ce := hc1.symm
  have hsc2 : M.s2 ≠ M.ce := hc2.symm
  have ha' : rk_up (rk_up h M.s1 (oB 3 (sT ra))) M.s2 (oB 3 (sT ro)) a = some (oB 1 M.ls) := rk_up_k ha2 (rk_up_k ha1 ha)
  have hb' : rk_up (rk_up h M.s1 (oB 3 (sT ra))) M.s2 (oB 3 (sT ro)) b = some (oB 2 (nL x fe ra ro)) := rk_up_k hb2 (rk_up_k hb1 hb)
  have hc' : rk_up (rk_up h M.s1 (oB 3 (sT ra))) M.s2 (oB 3 (sT ro)) M.ce = some (iA 1792 f) := rk_up_k hc2 (rk_up_k hc1 hc)
  have hs' : rk_up (rk_up h M.s1 (oB 3 (sT ra))) M.s2 (oB 3 (sT ro)) M.s1 = some (oB 3 (sT ra)) := rk_up_k h12 rk_up_s
  have hs2' : rk_up (rk_up h M.s1 (oB 3 (sT ra))) M.s2 (oB 3 (sT ro)) M.s2 = some (oB 3 (sT ro)) := rk_up_s
  have loop : ∀ (k i : Nat), i + k = x.ce → rk_Run mM_addUp (2, 39, 0, 0) (rk_R0 (rk_up (rk_up (rk_up h M.s1 (oB 3 (sT ra))) M.s2 (oB 3 (sT ro))) M.ce (iA 1792 (itf (fun i f => s_add ra ro (f (fr + i)) (f (fr2 + i))) to x.ce f)))) 25 [some (.ref a), some (.ref b), some (.int (nI fr)), some (.int (nI fr2)), some (.int (nI to)), some (.int (nI i))] [] (rk_up (rk_up (rk_up h M.s1 (oB 3 (sT ra))) M.s2 (oB 3 (sT ro))) M.ce (iA 1792 (itf (fun i f => s_add ra ro (f (fr + i)) (f (fr2 + i))) to i f))) (0, 0) := by
    intro k
    generalize rk_up (rk_up h M.s1 (oB 3 (sT ra))) M.s2 (oB 3 (sT ro)) = h' at ha' hb' hc' hs' hs2' ⊢
    induction k with
    | zero =>
      intro i hi
      have hi : i = x.ce := by omega
      subst hi
      refine rk_iload dM_addUp_25 rfl ?_
      refine rk_aload_n dM_addUp_27 rfl ?_
      refine rk_getf fM_71 dM_addUp_28 (by first | exact ha' | exact hb' | exact hc' | exact hs' | exact hs2' | assumption | (simp only [rk_up_s, rk_up_n hac, rk_up_n hbc, rk_up_n hsc, rk_up_n hsc2]; first | exact ha' | exact hb' | exact hc' | exact hs' | exact hs2' | rfl)) rfl ?_
      refine rk_icmp_ge 86 dM_addUp_31 (by decide) (fun q_31 => ?_) (fun q_31 => ?_)
      · exact rk_ret rfl dM_addUp_86 ⟨(Nat.le_of_ble_eq_true rfl), (Nat.le_of_ble_eq_true rfl)⟩ (⟨rfl, rfl⟩)
      · exact absurd (nI_le (Nat.le_refl _) (by omega)) q_31
    | succ k ih =>
      intro i hi
      refine rk_iload dM_addUp_25 rfl ?_
      refine rk_aload_n dM_addUp_27 rfl ?_
      refine rk_getf fM_71 dM_addUp_28 (by first | exact ha' | exact hb' | exact hc' | exact hs' | exact hs2' | assumption | (simp only [rk_up_s, rk_up_n hac, rk_up_n hbc, rk_up_n hsc, rk_up_n hsc2]; first | exact ha' | exact hb' | exact hc' | exact hs' | exact hs2' | rfl)) rfl ?_
      refine rk_icmp_ge 86 dM_addUp_31 (by decide) (fun q_31 => ?_) (fun q_31 => ?_)
      · exact absurd q_31 (nI_ge (by omega) (by omega))
      · refine rk_aload_n dM_addUp_34 rfl ?_
        refine rk_getf fM_15 dM_addUp_35 (by first | exact ha' | exact hb' | exact hc' | exact hs' | exact hs2' | assumption | (simp only [rk_up_s, rk_up_n hac, rk_up_n hbc, rk_up_n hsc, rk_up_n hsc2]; first | exact ha' | exact hb' | exact hc' | exact hs' | exact hs2' | rfl)) rfl ?_
        refine rk_iload dM_addUp_38 rfl ?_
        refine rk_iload dM_addUp_40 rfl ?_
        refine rk_iadd dM_addUp_42 ?_
        rw [nI_add]
        refine rk_aload_n dM_addUp_43 rfl ?_
        refine rk_getf fM_28 dM_addUp_44 (by first | exact ha' | exact hb' | exact hc' | exact hs' | exact hs2' | assumption | (simp only [rk_up_s, rk_up_n hac, rk_up_n hbc, rk_up_n hsc, rk_up_n hsc2]; first | exact ha' | exact hb' | exact hc' | exact hs' | exact hs2' | rfl)) rfl ?_
        refine rk_aload_n dM_addUp_47 rfl ?_
        refine rk_getf fM_15 dM_addUp_48 (by first | exact ha' | exact hb' | exact hc' | exact hs' | exact hs2' | assumption | (simp only [rk_up_s, rk_up_n hac, rk_up_n hbc, rk_up_n hsc, rk_up_n hsc2]; first | exact ha' | exact hb' | exact hc' | exact hs' | exact hs2' | rfl)) rfl ?_
        refine rk_iload_n dM_addUp_51 rfl ?_
        refine rk_iload dM_addUp_52 rfl ?_
        refine rk_iadd dM_addUp_54 ?_
        rw [nI_add fr i]
        refine rk_iald dM_addUp_55 (by first | exact ha' | exact hb' | exact hc' | exact hs' | exact hs2' | assumption | (simp only [rk_up_s, rk_up_n hac, rk_up_n hbc, rk_up_n hsc, rk_up_n hsc2]; first | exact ha' | exact hb' | exact hc' | exact hs' | exact hs2' | rfl)) (vp_in_nI (show fr + i < 1792 by omega) (by omega)) ?_
        rw [nI_clamp (show fr + i < 2 ^ 31 by omega)]
        refine rk_cvV (c_S_scaled M.s1 (s_mul ra) (s_sh ra) _ _ (by rw [rk_up_n hsc]; exact hs')) cM_181 dM_addUp_56 rfl lS_scaled (Nat.le_of_ble_eq_true rfl) (Nat.le_of_ble_eq_true rfl) (Nat.le_of_ble_eq_true rfl) (Nat.le_of_ble_eq_true rfl) (by first | exact ha' | exact hb' | exact hc' | exact hs' | exact hs2' | assumption | (simp only [rk_up_s, rk_up_n hac, rk_up_n hbc, rk_up_n hsc, rk_up_n hsc2]; first | exact ha' | exact hb' | exact hc' | exact hs' | exact hs2' | rfl)) ?_
        refine rk_aload_n dM_addUp_59 rfl ?_
        refine rk_getf fM_32 dM_addUp_60 (by first | exact ha' | exact hb' | exact hc' | exact hs' | exact hs2' | assumption | (simp only [rk_up_s, rk_up_n hac, rk_up_n hbc, rk_up_n hsc, rk_up_n hsc2]; first | exact ha' | exact hb' | exact hc' | exact hs' | exact hs2' | rfl)) rfl ?_
        refine rk_aload_n dM_addUp_63 rfl ?_
        refine rk_getf fM_15 dM_addUp_64 (by first | exact ha' | exact hb' | exact hc' | exact hs' | exact hs2' | assumption | (simp only [rk_up_s, rk_up_n hac, rk_up_n hbc, rk_up_n hsc, rk_up_n hsc2]; first | exact ha' | exact hb' | exact hc' | exact hs' | exact hs2' | rfl)) rfl ?_
        refine rk_iload_n dM_addUp_67 rfl ?_
        refine rk_iload dM_addUp_68 rfl ?_
        refine rk_iadd dM_addUp_70 ?_
        rw [nI_add fr2 i]
        refine rk_iald dM_addUp_71 (by first | exact ha' | exact hb' | exact hc' | exact hs' | exact hs2' | assumption | (simp only [rk_up_s, rk_up_n hac, rk_up_n hbc, rk_up_n hsc, rk_up_n hsc2]; first | exact ha' | exact hb' | exact hc' | exact hs' | exact hs2' | rfl)) (vp_in_nI (show fr2 + i < 1792 by omega) (by omega)) ?_
        rw [nI_clamp (show fr2 + i < 2 ^ 31 by omega)]
        refine rk_cvV (c_S_scaled M.s2 (s_mul ro) (s_sh ro) _ _ (by rw [rk_up_n hsc2]; exact hs2')) cM_181 dM_addUp_72 rfl lS_scaled (Nat.le_of_ble_eq_true rfl) (Nat.le_of_ble_eq_true rfl) (Nat.le_of_ble_eq_true rfl) (Nat.le_of_ble_eq_true rfl) (by first | exact ha' | exact hb' | exact hc' | exact hs' | exact hs2' | assumption | (simp only [rk_up_s, rk_up_n hac, rk_up_n hbc, rk_up_n hsc, rk_up_n hsc2]; first | exact ha' | exact hb' | exact hc' | exact hs' | exact hs2' | rfl)) ?_
        refine rk_ladd dM_addUp_75 ?_
        refine rk_csV (c_M_cut _ _) cM_185 dM_addUp_76 rfl lM_cut (Nat.le_of_ble_eq_true rfl) (Nat.le_of_ble_eq_true rfl) (Nat.le_of_ble_eq_true rfl) (Nat.le_of_ble_eq_true rfl) ?_
        refine rk_iast dM_addUp_79 (by first | exact ha' | exact hb' | exact hc' | exact hs' | exact hs2' | assumption | (simp only [rk_up_s, rk_up_n hac, rk_up_n hbc, rk_up_n hsc, rk_up_n hsc2]; first | exact ha' | exact hb' | exact hc' | exact hs' | exact hs2' | rfl)) (vp_in_nI (show to + i < 1792 by omega) (by omega)) ?_
        refine rk_iinc dM_addUp_80 rfl (inc1 i) (Nat.le_of_ble_eq_true rfl) ?_
        refine rk_goto 25 dM_addUp_83 (by decide) ?_
        rw [rk_up_up, nI_clamp (show to + i < 2 ^ 31 by omega)]
        exact ih (i + 1) (by omega)
  refine rk_Con.of [some (.ref a), some (.ref b), some (.int (nI fr)), some (.int (nI fr2)), some (.int (nI to)), none] rfl (Nat.le_of_ble_eq_true rfl) (by decide +kernel) ?_
  refine rk_aload_n dM_addUp_0 rfl ?_
  refine rk_getf fM_28 dM_addUp_1 (by first | exact ha | exact hb | exact hc | exact hs | exact hs2 | assumption | (simp only [rk_up_s, rk_up_n ha1, rk_up_n hb1, rk_up_n h12.symm]; first | exact ha | exact hb | exact hc | exact hs | exact hs2 | rfl)) rfl ?_
  refine rk_aload_n dM_addUp_4 rfl ?_
  refine rk_getf fM_147 dM_addUp_5 (by first | exact ha | exact hb | exact hc | exact hs | exact hs2 | assumption | (simp only [rk_up_s, rk_up_n ha1, rk_up_n hb1, rk_up_n h12.symm]; first | exact ha | exact hb | exact hc | exact hs | exact hs2 | rfl)) rfl ?_
  refine rk_cv0 (c_S_take M.s1 m0 sh0 ra h hs hr) cM_150 dM_addUp_8 rfl lS_take (Nat.le_of_ble_eq_true rfl) (Nat.le_of_ble_eq_true rfl) (Nat.le_of_ble_eq_true rfl) (Nat.le_of_ble_eq_true rfl) (by first | exact ha | exact hb | exact hc | exact hs | exact hs2 | assumption | (simp only [rk_up_s, rk_up_n ha1, rk_up_n hb1, rk_up_n h12.symm]; first | exact ha | exact hb | exact hc | exact hs | exact hs2 | rfl)) ?_
  refine rk_aload_n dM_addUp_11 rfl ?_
  refine rk_getf fM_32 dM_addUp_12 (by first | exact ha | exact hb | exact hc | exact hs | exact hs2 | assumption | (simp only [rk_up_s, rk_up_n ha1, rk_up_n hb1, rk_up_n h12.symm]; first | exact ha | exact hb | exact hc | exact hs | exact hs2 | rfl)) rfl ?_
  refine rk_aload_n dM_addUp_15 rfl ?_
  refine rk_getf fM_229 dM_addUp_16 (by first | exact ha | exact hb | exact hc | exact hs | exact hs2 | assumption | (simp only [rk_up_s, rk_up_n ha1, rk_up_n hb1, rk_up_n h12.symm]; first | exact ha | exact hb | exact hc | exact hs | exact hs2 | rfl)) rfl ?_
  refine rk_cv0 (c_S_take M.s2 m1 sh1 ro _ (rk_up_k h12.symm hs2) hr2) cM_150 dM_addUp_19 rfl lS_take (Nat.le_of_ble_eq_true rfl) (Nat.le_of_ble_eq_true rfl) (Nat.le_of_ble_eq_true rfl) (Nat.le_of_ble_eq_true rfl) (by first | exact ha | exact hb | exact hc | exact hs | exact hs2 | assumption | (simp only [rk_up_s, rk_up_n ha1, rk_up_n hb1, rk_up_n h12.symm]; first | exact ha | exact hb | exact hc | exact hs | exact hs2 | rfl)) ?_
  refine rk_iconst (v := 0) dM_addUp_22 (by decide) ?_
  refine rk_istore dM_addUp_23 (Nat.le_of_ble_eq_true rfl) ?_
  have e := loop x.ce 0 (by omega)
  rw [itf_0, rk_up_id hc'] at e
  exact e
/-- one sum of dense -/
def g_con (fr off D C : Nat) (wt : Nat → Int32) (ch : Nat) (f : Nat → Int32) : Int32 := itr (fun j s => s + f (fr + j) * wt (off + ch * D + j)) D 0 (16 * wt (off + C * D + ch))
theorem c_M_connect (a b b2 : Nat) (M : mR) (n o : aN) (fe fe2 : Nat) (ra ro ra2 ro2 : UInt64) (m0 : Int64) (sh0 : Int32) (fr to : Nat) (f wt : Nat → Int32) (h : rk_H) (ha : h a = some (oB 1 M.ls)) (hb : h b = some (oB 2 (nL n fe ra ro))) (hb2 : h b2 = some (oB 2 (nL o fe2 ra2 ro2))) (hc : h M.ce = some (iA 1792 f)) (hv : h M.wc = some (iA 512 wt)) (hs : h M.s1 = some (oB 3 (sL m0 sh0))) (hvc : M.wc ≠ M.ce) (hr : d_good ra = true) (h1 : fr + o.ce ≤ 1792) (h2 : to + n.c ≤ 1792) (h3 : n.off + n.c * o.ce + n.c ≤ 512) :
    rk_Con mM_connect (2, 37, 0, 0) [.ref a, .ref b, .ref b2, .int (nI fr), .int (nI to)] h (rk_R0 (rk_up (rk_up h M.s1 (oB 3 (sT ra))) M.ce (iA 1792 (itf (fun ch f => s_by ra (g_con fr n.off o.ce n.c wt ch f)) to n.c f)))) := by
  have ha1 : a ≠ M.s1 := rk_neq ha hs (by intro q; cases q)
  have hb1 : b ≠ M.s1 := rk_neq hb hs (by intro q; cases q)
  have hb21 : b2 ≠ M.s1 := rk_neq hb2 hs (by intro q; cases q)
  have hc1 : M.ce ≠ M.s1 := rk_neq hc hs (by intro q; cases q)
  have hv1 : M.wc ≠ M.s1 := rk_neq hv hs (by intro q; cases q)
  have hac : a ≠ M.ce := rk_neq ha hc (by intro q; cases q)
  have hbc : b ≠ M.ce := rk_neq hb hc (by intro q; cases q)
  have hb2c : b2 ≠ M.ce := rk_neq hb2 hc (by intro q; cases q)
  have hsc : M.s1 ≠ M.ce := hc1.symm
  have ha' : rk_up h M.s1 (oB 3 (sT ra)) a = some (oB 1 M.ls) := rk_up_k ha1 ha
  have hb' : rk_up h M.s1 (oB 3 (sT ra)) b = some (oB 2 (nL n fe ra ro)) := rk_up_k hb1 hb
  have hb2' : rk_up h M.s1 (oB 3 (sT ra)) b2 = some (oB 2 (nL o fe2 ra2 ro2)) := rk_up_k hb21 hb2
  have hc' : rk_up h M.s1 (oB 3 (sT ra)) M.ce = some (iA 1792 f) := rk_up_k hc1 hc
  have hv' : rk_up h M.s1 (oB 3 (sT ra)) M.wc = some (iA 512 wt) := rk_up_k hv1 hv
  have hs' : rk_up h M.s1 (oB 3 (sT ra)) M.s1 = some (oB 3 (sT ra)) := rk_up_s
  have loop : ∀ (k i : Nat), i + k = n.c → rk_Run mM_connect (2, 37, 0, 0) (rk_R0 (rk_up (rk_up h M.s1 (oB 3 (sT ra))) M.ce (iA 1792 (itf (fun ch f => s_by ra (g_con fr n.off o.ce n.c wt ch f)) to n.c f)))) 14 [some (.ref a), some (.ref b), some (.ref b2), some (.int (nI fr)), some (.int (nI to)), some (.int (nI i)), none, none, none] [] (rk_up (rk_up h M.s1 (oB 3 (sT ra))) M.ce (iA 1792 (itf (fun ch f => s_by ra (g_con fr n.off o.ce n.c wt ch f)) to i f))) (0, 0) := by
    intro k
    generalize rk_up h M.s1 (oB 3 (sT ra)) = h' at ha' hb' hb2' hc' hv' hs' ⊢
    induction k with
    | zero =>
      intro i hi
      have hi : i = n.c := by omega
      subst hi
      refine rk_iload dM_connect_14 rfl ?_
      refine rk_aload_n dM_connect_16 rfl ?_
      refine rk_getf fM_164 dM_connect_17 (by first | exact ha' | exact hb' | exact hb2' | exact hc' | exact hv' | exact hs' | assumption | (simp only [rk_up_s, rk_up_n hac, rk_up_n hbc, rk_up_n hb2c, rk_up_n hsc, rk_up_n hvc]; first | exact ha' | exact hb' | exact hb2' | exact hc' | exact hv' | exact hs' | rfl)) rfl ?_
      refine rk_icmp_ge 121 dM_connect_20 (by decide) (fun q_20 => ?_) (fun q_20 => ?_)
      · exact rk_ret rfl dM_connect_121 ⟨(Nat.le_of_ble_eq_true rfl), (Nat.le_of_ble_eq_true rfl)⟩ (⟨rfl, rfl⟩)
      · exact absurd (nI_le (Nat.le_refl _) (by omega)) q_20
    | succ k ih =>
      intro i hi
      have hi2 : i * o.ce + o.ce ≤ n.c * o.ce := by rw [← Nat.succ_mul]; exact Nat.mul_le_mul_right _ (by omega)
      have inn : ∀ (k2 j : Nat) (s : Int32), j + k2 = o.ce → itr (fun j s => s + (itf (fun ch f => s_by ra (g_con fr n.off o.ce n.c wt ch f)) to i f) (fr + j) * wt (n.off + i * o.ce + j)) k2 j s = g_con fr n.off o.ce n.c wt i (itf (fun ch f => s_by ra (g_con fr n.off o.ce n.c wt ch f)) to i f) → rk_Run mM_connect (2, 37, 0, 0) (rk_R0 (rk_up h' M.ce (iA 1792 (itf (fun ch f => s_by ra (g_con fr n.off o.ce n.c wt ch f)) to n.c f)))) 53 [some (.ref a), some (.ref b), some (.ref b2), some (.int (nI fr)), some (.int (nI to)), some (.int (nI i)), some (.int s), some (.int (nI (n.off + i * o.ce))), some (.int (nI j))] [] (rk_up h' M.ce (iA 1792 (itf (fun ch f => s_by ra (g_con fr n.off o.ce n.c wt ch f)) to i f))) (0, 0) := by
        intro k2
        induction k2 with
        | zero =>
          intro j s hj hsum
          have hj : j = o.ce := by omega
          subst hj
          replace hsum : s = _ := hsum
          refine rk_iload dM_connect_53 rfl ?_
          refine rk_aload_n dM_connect_55 rfl ?_
          refine rk_getf fM_71 dM_connect_56 (by first | exact ha' | exact hb' | exact hb2' | exact hc' | exact hv' | exact hs' | assumption | (simp only [rk_up_s, rk_up_n hac, rk_up_n hbc, rk_up_n hb2c, rk_up_n hsc, rk_up_n hvc]; first | exact ha' | exact hb' | exact hb2' | exact hc' | exact hv' | exact hs' | rfl)) rfl ?_
          refine rk_icmp_ge 93 dM_connect_59 (by decide) (fun q_59 => ?_) (fun q_59 => ?_)
          · refine rk_aload_n dM_connect_93 rfl ?_
            refine rk_getf fM_15 dM_connect_94 (by first | exact ha' | exact hb' | exact hb2' | exact hc' | exact hv' | exact hs' | assumption | (simp only [rk_up_s, rk_up_n hac, rk_up_n hbc, rk_up_n hb2c, rk_up_n hsc, rk_up_n hvc]; first | exact ha' | exact hb' | exact hb2' | exact hc' | exact hv' | exact hs' | rfl)) rfl ?_
            refine rk_iload dM_connect_97 rfl ?_
            refine rk_iload dM_connect_99 rfl ?_
            refine rk_iadd dM_connect_101 ?_
            rw [nI_add]
            refine rk_aload_n dM_connect_102 rfl ?_
            refine rk_getf fM_28 dM_connect_103 (by first | exact ha' | exact hb' | exact hb2' | exact hc' | exact hv' | exact hs' | assumption | (simp only [rk_up_s, rk_up_n hac, rk_up_n hbc, rk_up_n hb2c, rk_up_n hsc, rk_up_n hvc]; first | exact ha' | exact hb' | exact hb2' | exact hc' | exact hv' | exact hs' | rfl)) rfl ?_
            refine rk_iload dM_connect_106 rfl ?_
            refine rk_cvV (c_S_scaled M.s1 (s_mul ra) (s_sh ra) _ _ (by rw [rk_up_n hsc]; exact hs')) cM_181 dM_connect_108 rfl lS_scaled (Nat.le_of_ble_eq_true rfl) (Nat.le_of_ble_eq_true rfl) (Nat.le_of_ble_eq_true rfl) (Nat.le_of_ble_eq_true rfl) (by first | exact ha' | exact hb' | exact hb2' | exact hc' | exact hv' | exact hs' | assumption | (simp only [rk_up_s, rk_up_n hac, rk_up_n hbc, rk_up_n hb2c, rk_up_n hsc, rk_up_n hvc]; first | exact ha' | exact hb' | exact hb2' | exact hc' | exact hv' | exact hs' | rfl)) ?_
            refine rk_csV (c_M_cut _ _) cM_185 dM_connect_111 rfl lM_cut (Nat.le_of_ble_eq_true rfl) (Nat.le_of_ble_eq_true rfl) (Nat.le_of_ble_eq_true rfl) (Nat.le_of_ble_eq_true rfl) ?_
            refine rk_iast dM_connect_114 (by first | exact ha' | exact hb' | exact hb2' | exact hc' | exact hv' | exact hs' | assumption | (simp only [rk_up_s, rk_up_n hac, rk_up_n hbc, rk_up_n hb2c, rk_up_n hsc, rk_up_n hvc]; first | exact ha' | exact hb' | exact hb2' | exact hc' | exact hv' | exact hs' | rfl)) (vp_in_nI (show to + i < 1792 by omega) (by omega)) ?_
            refine rk_iinc dM_connect_115 rfl (inc1 i) (Nat.le_of_ble_eq_true rfl) ?_
            refine rk_goto 14 dM_connect_118 (by decide) ?_
            rw [rk_up_up, nI_clamp (show to + i < 2 ^ 31 by omega), hsum]
            refine rk_lv [some (.ref a), some (.ref b), some (.ref b2), some (.int (nI fr)), some (.int (nI to)), some (.int (nI (i + 1))), none, none, none] ⟨rfl, rfl, rfl, rfl, rfl, rfl, trivial⟩ ?_
            exact ih (i + 1) (by omega)
          · exact absurd (nI_le (Nat.le_refl _) (by omega)) q_59
        | succ k2 ih2 =>
          intro j s hj hsum
          refine rk_iload dM_connect_53 rfl ?_
          refine rk_aload_n dM_connect_55 rfl ?_
          refine rk_getf fM_71 dM_connect_56 (by first | exact ha' | exact hb' | exact hb2' | exact hc' | exact hv' | exact hs' | assumption | (simp only [rk_up_s, rk_up_n hac, rk_up_n hbc, rk_up_n hb2c, rk_up_n hsc, rk_up_n hvc]; first | exact ha' | exact hb' | exact hb2' | exact hc' | exact hv' | exact hs' | rfl)) rfl ?_
          refine rk_icmp_ge 93 dM_connect_59 (by decide) (fun q_59 => ?_) (fun q_59 => ?_)
          · exact absurd q_59 (nI_ge (by omega) (by omega))
          · refine rk_iload dM_connect_62 rfl ?_
            refine rk_aload_n dM_connect_64 rfl ?_
            refine rk_getf fM_15 dM_connect_65 (by first | exact ha' | exact hb' | exact hb2' | exact hc' | exact hv' | exact hs' | assumption | (simp only [rk_up_s, rk_up_n hac, rk_up_n hbc, rk_up_n hb2c, rk_up_n hsc, rk_up_n hvc]; first | exact ha' | exact hb' | exact hb2' | exact hc' | exact hv' | exact hs' | rfl)) rfl ?_
            refine rk_iload_n dM_connect_68 rfl ?_
            refine rk_iload dM_connect_69 rfl ?_
            refine rk_iadd dM_connect_71 ?_
            rw [nI_add]
            refine rk_iald dM_connect_72 (by first | exact ha' | exact hb' | exact hb2' | exact hc' | exact hv' | exact hs' | assumption | (simp only [rk_up_s, rk_up_n hac, rk_up_n hbc, rk_up_n hb2c, rk_up_n hsc, rk_up_n hvc]; first | exact ha' | exact hb' | exact hb2' | exact hc' | exact hv' | exact hs' | rfl)) (vp_in_nI (show fr + j < 1792 by omega) (by omega)) ?_
            rw [nI_clamp (show fr + j < 2 ^ 31 by omega)]
            refine rk_aload_n dM_connect_73 rfl ?_
            refine rk_getf fM_9 dM_connect_74 (by first | exact ha' | exact hb' | exact hb2' | exact hc' | exact hv' | exact hs' | assumption | (simp only [rk_up_s, rk_up_n hac, rk_up_n hbc, rk_up_n hb2c, rk_up_n hsc, rk_up_n hvc]; first | exact ha' | exact hb' | exact hb2' | exact hc' | exact hv' | exact hs' | rfl)) rfl ?_
            refine rk_iload dM_connect_77 rfl ?_
            refine rk_iload dM_connect_79 rfl ?_
            refine rk_iadd dM_connect_81 ?_
            rw [nI_add (n.off + _) j]
            refine rk_iald dM_connect_82 (by first | exact ha' | exact hb' | exact hb2' | exact hc' | exact hv' | exact hs' | assumption | (simp only [rk_up_s, rk_up_n hac, rk_up_n hbc, rk_up_n hb2c, rk_up_n hsc, rk_up_n hvc]; first | exact ha' | exact hb' | exact hb2' | exact hc' | exact hv' | exact hs' | rfl)) (vp_in_nI (show n.off + i * o.ce + j < 512 by omega) (by omega)) ?_
            rw [nI_clamp (show n.off + i * o.ce + j < 2 ^ 31 by omega)]
            refine rk_imul dM_connect_83 ?_
            refine rk_iadd dM_connect_84 ?_
            refine rk_istore dM_connect_85 (Nat.le_of_ble_eq_true rfl) ?_
            refine rk_iinc dM_connect_87 rfl (inc1 j) (Nat.le_of_ble_eq_true rfl) ?_
            refine rk_goto 53 dM_connect_90 (by decide) ?_
            exact ih2 (j + 1) _ (by omega) hsum
      refine rk_iload dM_connect_14 rfl ?_
      refine rk_aload_n dM_connect_16 rfl ?_
      refine rk_getf fM_164 dM_connect_17 (by first | exact ha' | exact hb' | exact hb2' | exact hc' | exact hv' | exact hs' | assumption | (simp only [rk_up_s, rk_up_n hac, rk_up_n hbc, rk_up_n hb2c, rk_up_n hsc, rk_up_n hvc]; first | exact ha' | exact hb' | exact hb2' | exact hc' | exact hv' | exact hs' | rfl)) rfl ?_
      refine rk_icmp_ge 121 dM_connect_20 (by decide) (fun q_20 => ?_) (fun q_20 => ?_)
      · exact absurd q_20 (nI_ge (by omega) (by omega))
      · refine rk_aload_n dM_connect_23 rfl ?_
        refine rk_aload_n dM_connect_24 rfl ?_
        refine rk_aload_n dM_connect_25 rfl ?_
        refine rk_getf fM_71 dM_connect_26 (by first | exact ha' | exact hb' | exact hb2' | exact hc' | exact hv' | exact hs' | assumption | (simp only [rk_up_s, rk_up_n hac, rk_up_n hbc, rk_up_n hb2c, rk_up_n hsc, rk_up_n hvc]; first | exact ha' | exact hb' | exact hb2' | exact hc' | exact hv' | exact hs' | rfl)) rfl ?_
        refine rk_iload dM_connect_29 rfl ?_
        refine rk_cvV (c_M_bias a b M n fe ra ro o.ce i wt _ (by rw [rk_up_n hac]; exact ha') (by rw [rk_up_n hbc]; exact hb') (by rw [rk_up_n hvc]; exact hv') (by omega)) cM_174 dM_connect_31 rfl lM_bias (Nat.le_of_ble_eq_true rfl) (Nat.le_of_ble_eq_true rfl) (Nat.le_of_ble_eq_true rfl) (Nat.le_of_ble_eq_true rfl) (by first | exact ha' | exact hb' | exact hb2' | exact hc' | exact hv' | exact hs' | assumption | (simp only [rk_up_s, rk_up_n hac, rk_up_n hbc, rk_up_n hb2c, rk_up_n hsc, rk_up_n hvc]; first | exact ha' | exact hb' | exact hb2' | exact hc' | exact hv' | exact hs' | rfl)) ?_
        refine rk_istore dM_connect_34 (Nat.le_of_ble_eq_true rfl) ?_
        refine rk_aload_n dM_connect_36 rfl ?_
        refine rk_getf fM_217 dM_connect_37 (by first | exact ha' | exact hb' | exact hb2' | exact hc' | exact hv' | exact hs' | assumption | (simp only [rk_up_s, rk_up_n hac, rk_up_n hbc, rk_up_n hb2c, rk_up_n hsc, rk_up_n hvc]; first | exact ha' | exact hb' | exact hb2' | exact hc' | exact hv' | exact hs' | rfl)) rfl ?_
        refine rk_iload dM_connect_40 rfl ?_
        refine rk_aload_n dM_connect_42 rfl ?_
        refine rk_getf fM_71 dM_connect_43 (by first | exact ha' | exact hb' | exact hb2' | exact hc' | exact hv' | exact hs' | assumption | (simp only [rk_up_s, rk_up_n hac, rk_up_n hbc, rk_up_n hb2c, rk_up_n hsc, rk_up_n hvc]; first | exact ha' | exact hb' | exact hb2' | exact hc' | exact hv' | exact hs' | rfl)) rfl ?_
        refine rk_imul dM_connect_46 ?_
        refine rk_iadd dM_connect_47 ?_
        rw [pk_mul, nI_add]
        refine rk_istore dM_connect_48 (Nat.le_of_ble_eq_true rfl) ?_
        refine rk_iconst (v := 0) dM_connect_50 (by decide) ?_
        refine rk_istore dM_connect_51 (Nat.le_of_ble_eq_true rfl) ?_
        exact inn o.ce 0 _ (by omega) rfl
  refine rk_Con.of [some (.ref a), some (.ref b), some (.ref b2), some (.int (nI fr)), some (.int (nI to)), none, none, none, none] rfl (Nat.le_of_ble_eq_true rfl) (by decide +kernel) ?_
  refine rk_aload_n dM_connect_0 rfl ?_
  refine rk_getf fM_28 dM_connect_1 (by first | exact ha | exact hb | exact hc | exact hs | assumption) rfl ?_
  refine rk_aload_n dM_connect_4 rfl ?_
  refine rk_getf fM_147 dM_connect_5 (by first | exact ha | exact hb | exact hc | exact hs | assumption) rfl ?_
  refine rk_cv0 (c_S_take M.s1 m0 sh0 ra h hs hr) cM_150 dM_connect_8 rfl lS_take (Nat.le_of_ble_eq_true rfl) (Nat.le_of_ble_eq_true rfl) (Nat.le_of_ble_eq_true rfl) (Nat.le_of_ble_eq_true rfl) (by first | exact ha | exact hb | exact hc | exact hs | assumption) ?_
  refine rk_iconst (v := 0) dM_connect_11 (by decide) ?_
  refine rk_istore dM_connect_12 (Nat.le_of_ble_eq_true rfl) ?_
  have e := loop n.c 0 (by omega)
  rw [itf_0, rk_up_id hc'] at e
  exact e
/-- one pixel of a concat -/
def g_join (fr fr2 to D D2 C p : Nat) (f : Nat → Int32) : Nat → Int32 := va_cpy (va_cpy f f (fr + p * D) (to + p * C) D) (va_cpy f f (fr + p * D) (to + p * C) D) (fr2 + p * D2) (to + p * C + D) D2
theorem c_M_join (a b b2 : Nat) (M : mR) (n o : aN) (fe fe2 : Nat) (ra ro ra2 ro2 : UInt64) (D2 : Nat) (fr fr2 to : Nat) (f : Nat → Int32) (h : rk_H) (ha : h a = some (oB 1 M.ls)) (hb : h b = some (oB 2 (nL n fe ra ro))) (hb2 : h b2 = some (oB 2 (nL o fe2 ra2 ro2))) (hc : h M.ce = some (iA 1792 f)) (hD : n.c = o.c + D2) (h1 : fr + n.h * n.w * o.c ≤ 1792) (h1' : fr2 + n.h * n.w * D2 ≤ 1792) (h2 : to + n.ce ≤ 1792) (hsz : n.h * n.w < 1000) :
    rk_Con mM_join (1, 18, 0, 0) [.ref a, .ref b, .ref b2, .int (nI fr), .int (nI fr2), .int (nI to)] h (rk_R0 (rk_up h M.ce (iA 1792 (itr (g_join fr fr2 to o.c D2 n.c) (n.h * n.w) 0 f)))) := by
  have hac : a ≠ M.ce := rk_neq ha hc (by intro q; cases q)
  have hbc : b ≠ M.ce := rk_neq hb hc (by intro q; cases q)
  have hb2c : b2 ≠ M.ce := rk_neq hb2 hc (by intro q; cases q)
  have loop : ∀ (k i : Nat) (f : Nat → Int32), i + k = n.h * n.w → rk_Run mM_join (1, 18, 0, 0) (rk_R0 (rk_up h M.ce (iA 1792 (itr (g_join fr fr2 to o.c D2 n.c) k i f)))) 18 [some (.ref a), some (.ref b), some (.ref b2), some (.int (nI fr)), some (.int (nI fr2)), some (.int (nI to)), some (.int (nI o.c)), some (.int (nI D2)), some (.int (nI i)), none] [] (rk_up h M.ce (iA 1792 f)) (0, 0) := by
    intro k
    induction k with
    | zero =>
      intro i f hi
      have hi : i = n.h * n.w := by omega
      subst hi
      refine rk_iload dM_join_18 rfl ?_
      refine rk_aload_n dM_join_20 rfl ?_
      refine rk_getf fM_154 dM_join_21 (by first | exact ha | exact hb | exact hb2 | exact hc | assumption | (simp only [rk_up_s, rk_up_n hac, rk_up_n hbc, rk_up_n hb2c]; first | exact ha | exact hb | exact hb2 | exact hc | rfl)) rfl ?_
      refine rk_aload_n dM_join_24 rfl ?_
      refine rk_getf fM_157 dM_join_25 (by first | exact ha | exact hb | exact hb2 | exact hc | assumption | (simp only [rk_up_s, rk_up_n hac, rk_up_n hbc, rk_up_n hb2c]; first | exact ha | exact hb | exact hb2 | exact hc | rfl)) rfl ?_
      refine rk_imul dM_join_28 ?_
      rw [pk_mul]
      refine rk_icmp_ge 98 dM_join_29 (by decide) (fun q_29 => ?_) (fun q_29 => ?_)
      · exact rk_ret rfl dM_join_98 ⟨(Nat.le_of_ble_eq_true rfl), (Nat.le_of_ble_eq_true rfl)⟩ (⟨rfl, rfl⟩)
      · exact absurd (nI_le (Nat.le_refl _) (by omega)) q_29
    | succ k ih =>
      intro i f hi
      have m1 : i * o.c + o.c ≤ n.h * n.w * o.c := by rw [← Nat.succ_mul]; exact Nat.mul_le_mul_right _ (by omega)
      have m2 : i * D2 + D2 ≤ n.h * n.w * D2 := by rw [← Nat.succ_mul]; exact Nat.mul_le_mul_right _ (by omega)
      have m3 : i * n.c + n.c ≤ n.ce := by rw [← Nat.succ_mul]; exact Nat.mul_le_mul_right _ (by omega)
      refine rk_iload dM_join_18 rfl ?_
      refine rk_aload_n dM_join_20 rfl ?_
      refine rk_getf fM_154 dM_join_21 (by first | exact ha | exact hb | exact hb2 | exact hc | assumption | (simp only [rk_up_s, rk_up_n hac, rk_up_n hbc, rk_up_n hb2c]; first | exact ha | exact hb | exact hb2 | exact hc | rfl)) rfl ?_
      refine rk_aload_n dM_join_24 rfl ?_
      refine rk_getf fM_157 dM_join_25 (by first | exact ha | exact hb | exact hb2 | exact hc | assumption | (simp only [rk_up_s, rk_up_n hac, rk_up_n hbc, rk_up_n hb2c]; first | exact ha | exact hb | exact hb2 | exact hc | rfl)) rfl ?_
      refine rk_imul dM_join_28 ?_
      rw [pk_mul]
      refine rk_icmp_ge 98 dM_join_29 (by decide) (fun q_29 => ?_) (fun q_29 => ?_)
      · exact absurd q_29 (nI_ge (by omega) (by omega))
      · refine rk_iload dM_join_32 rfl ?_
        refine rk_iload dM_join_34 rfl ?_
        refine rk_aload_n dM_join_36 rfl ?_
        refine rk_getf fM_164 dM_join_37 (by first | exact ha | exact hb | exact hb2 | exact hc | assumption | (simp only [rk_up_s, rk_up_n hac, rk_up_n hbc, rk_up_n hb2c]; first | exact ha | exact hb | exact hb2 | exact hc | rfl)) rfl ?_
        refine rk_imul dM_join_40 ?_
        refine rk_iadd dM_join_41 ?_
        rw [pk_mul, nI_add]
        refine rk_istore dM_join_42 (Nat.le_of_ble_eq_true rfl) ?_
        refine rk_aload_n dM_join_44 rfl ?_
        refine rk_getf fM_15 dM_join_45 (by first | exact ha | exact hb | exact hb2 | exact hc | assumption | (simp only [rk_up_s, rk_up_n hac, rk_up_n hbc, rk_up_n hb2c]; first | exact ha | exact hb | exact hb2 | exact hc | rfl)) rfl ?_
        refine rk_iload_n dM_join_48 rfl ?_
        refine rk_iload dM_join_49 rfl ?_
        refine rk_iload dM_join_51 rfl ?_
        refine rk_imul dM_join_53 ?_
        refine rk_iadd dM_join_54 ?_
        rw [pk_mul, nI_add]
        refine rk_aload_n dM_join_55 rfl ?_
        refine rk_getf fM_15 dM_join_56 (by first | exact ha | exact hb | exact hb2 | exact hc | assumption | (simp only [rk_up_s, rk_up_n hac, rk_up_n hbc, rk_up_n hb2c]; first | exact ha | exact hb | exact hb2 | exact hc | rfl)) rfl ?_
        refine rk_iload dM_join_59 rfl ?_
        refine rk_iload dM_join_61 rfl ?_
        refine rk_acpN jM_106 dM_join_63 (by first | exact ha | exact hb | exact hb2 | exact hc | assumption | (simp only [rk_up_s, rk_up_n hac, rk_up_n hbc, rk_up_n hb2c]; first | exact ha | exact hb | exact hb2 | exact hc | rfl)) (by first | exact ha | exact hb | exact hb2 | exact hc | assumption | (simp only [rk_up_s, rk_up_n hac, rk_up_n hbc, rk_up_n hb2c]; first | exact ha | exact hb | exact hb2 | exact hc | rfl)) ⟨⟨by omega, by omega⟩, by omega, by omega⟩ (Nat.le_of_ble_eq_true rfl) (Nat.le_of_ble_eq_true rfl) ?_
        refine rk_aload_n dM_join_66 rfl ?_
        refine rk_getf fM_15 dM_join_67 (by first | exact ha | exact hb | exact hb2 | exact hc | assumption | (simp only [rk_up_s, rk_up_n hac, rk_up_n hbc, rk_up_n hb2c]; first | exact ha | exact hb | exact hb2 | exact hc | rfl)) rfl ?_
        refine rk_iload dM_join_70 rfl ?_
        refine rk_iload dM_join_72 rfl ?_
        refine rk_iload dM_join_74 rfl ?_
        refine rk_imul dM_join_76 ?_
        refine rk_iadd dM_join_77 ?_
        rw [pk_mul, nI_add]
        refine rk_aload_n dM_join_78 rfl ?_
        refine rk_getf fM_15 dM_join_79 (by first | exact ha | exact hb | exact hb2 | exact hc | assumption | (simp only [rk_up_s, rk_up_n hac, rk_up_n hbc, rk_up_n hb2c]; first | exact ha | exact hb | exact hb2 | exact hc | rfl)) rfl ?_
        refine rk_iload dM_join_82 rfl ?_
        refine rk_iload dM_join_84 rfl ?_
        refine rk_iadd dM_join_86 ?_
        rw [nI_add (to + _)]
        refine rk_iload dM_join_87 rfl ?_
        refine rk_acpN jM_106 dM_join_89 (by first | exact ha | exact hb | exact hb2 | exact hc | assumption | (simp only [rk_up_s, rk_up_n hac, rk_up_n hbc, rk_up_n hb2c]; first | exact ha | exact hb | exact hb2 | exact hc | rfl)) (by first | exact ha | exact hb | exact hb2 | exact hc | assumption | (simp only [rk_up_s, rk_up_n hac, rk_up_n hbc, rk_up_n hb2c]; first | exact ha | exact hb | exact hb2 | exact hc | rfl)) ⟨⟨by omega, by omega⟩, by omega, by omega⟩ (Nat.le_of_ble_eq_true rfl) (Nat.le_of_ble_eq_true rfl) ?_
        refine rk_iinc dM_join_92 rfl (inc1 i) (Nat.le_of_ble_eq_true rfl) ?_
        refine rk_goto 18 dM_join_95 (by decide) ?_
        rw [rk_up_up, rk_up_up]
        refine rk_lv [some (.ref a), some (.ref b), some (.ref b2), some (.int (nI fr)), some (.int (nI fr2)), some (.int (nI to)), some (.int (nI o.c)), some (.int (nI D2)), some (.int (nI (i + 1))), none] ⟨rfl, rfl, rfl, rfl, rfl, rfl, rfl, rfl, rfl, trivial⟩ ?_
        exact ih (i + 1) _ (by omega)
  refine rk_Con.of [some (.ref a), some (.ref b), some (.ref b2), some (.int (nI fr)), some (.int (nI fr2)), some (.int (nI to)), none, none, none, none] rfl (Nat.le_of_ble_eq_true rfl) (by decide +kernel) ?_
  refine rk_aload_n dM_join_0 rfl ?_
  refine rk_getf fM_164 dM_join_1 (by first | exact ha | exact hb | exact hb2 | exact hc | assumption) rfl ?_
  refine rk_istore dM_join_4 (Nat.le_of_ble_eq_true rfl) ?_
  refine rk_aload_n dM_join_6 rfl ?_
  refine rk_getf fM_164 dM_join_7 (by first | exact ha | exact hb | exact hb2 | exact hc | assumption) rfl ?_
  refine rk_iload dM_join_10 rfl ?_
  refine rk_isub dM_join_12 ?_
  rw [pk_sub (by omega), show n.c - o.c = D2 by omega]
  refine rk_istore dM_join_13 (Nat.le_of_ble_eq_true rfl) ?_
  refine rk_iconst (v := 0) dM_join_15 (by decide) ?_
  refine rk_istore dM_join_16 (Nat.le_of_ble_eq_true rfl) ?_
  have e := loop (n.h * n.w) 0 f (by omega)
  rw [rk_up_id hc] at e
  exact e
