/-! what the run shows -/
theorem vI_fd {N : Nat → aN} {wt : Nat → Int32} {i j : Nat} {fd fd' ca cb : Nat → Int32} (h : fd j = fd' j) : vI N wt i fd ca cb j = vI N wt i fd' ca cb j := by
  unfold vI vNode
  rw [h]
section RUNO
variable {N : Nat → aN} {n out : Nat} {wt : Nat → Int32} {fd fd' : Nat → Nat → Int32}
theorem runS_fd (hwf : wfN N n) (h : ∀ m z, m < n → z < 128 → fd m z = fd' m z) {m : Nat} (hm : m < n) (f : Nat → Int32) : runS N wt (stS N) (pR N n out) (pP N n out).1 fd m f = runS N wt (stS N) (pR N n out) (pP N n out).1 fd' m f := by
  have hin := wfN.inn hwf
  have bm := (wfN.bd hwf m hm).ce
  unfold runS
  by_cases hr : pR N n out m = 2
  · rw [if_pos hr, if_pos hr]
    refine stp_congr (fun j hj => ?_)
    unfold vM
    cases hf : fuO N (stS N) (pR N n out) m with
    | none => exact vI_fd (h m j hm (by omega))
    | some i =>
      have hi := (fuO_lt hin (stS_le hin) hm hf).1
      exact congrArg (s_clp (N m).lo (N m).hi) (vI_fd (h i j (by omega) (by omega)))
  · rw [if_neg hr, if_neg hr]
theorem run_top (hwf : wfN N n) (ho : out < n) (c : Nat → Int32) : itr (runS N wt (stS N) (pR N n out) (pP N n out).1 fd) n 0 c = itr (runS N wt (stS N) (pR N n out) (pP N n out).1 fd) (pO N out + 1) 0 c := by
  have hSo : pO N out ≤ out := stS_le (wfN.inn hwf) out ho
  have e := itr_app (s := runS N wt (stS N) (pR N n out) (pP N n out).1 fd) (pO N out + 1) (n - (pO N out + 1)) 0 c
  rw [show pO N out + 1 + (n - (pO N out + 1)) = n by omega] at e
  rw [e]
  refine itr_skip _ _ _ (fun m h1 h2 f => if_neg (fun hr => ?_))
  have := pR_lt hwf ho (pR_2 hr)
  omega
theorem rnR_top (hwf : wfN N n) (ho : out < n) (q : (Nat → Int32) × (Nat → Int32)) : itr (rnR N wt fd (pR N n out) (pP N n out).1) n 0 q = itr (rnR N wt fd (pR N n out) (pP N n out).1) (pO N out + 1) 0 q := by
  have hSo : pO N out ≤ out := stS_le (wfN.inn hwf) out ho
  have e := itr_app (s := rnR N wt fd (pR N n out) (pP N n out).1) (pO N out + 1) (n - (pO N out + 1)) 0 q
  rw [show pO N out + 1 + (n - (pO N out + 1)) = n by omega] at e
  rw [e]
  refine itr_skip _ _ _ (fun m h1 h2 f => if_pos ?_)
  by_cases h0 : pR N n out m = 0
  · exact h0
  · have := pR_lt hwf ho (pR_0 h0)
    omega
/-- the arena and the output, after a run -/
theorem run_out (hwf : wfN N n) (hn : n ≤ 14) (ho : out < n) (h : ∀ m z, m < n → z < 128 → fd m z = fd' m z) (f0 g0 : Nat → Int32) (hg : ∀ j, j < (pP N n out).2 → g0 j = 0) :
    (∀ j, j < (pP N n out).2 → (itr (rnR N wt fd (pR N n out) (pP N n out).1) n 0 (f0, g0)).2 j = itr (runS N wt (stS N) (pR N n out) (pP N n out).1 fd') (pO N out + 1) 0 (fun _ => 0) j) ∧
    (∀ z, z < (N (pO N out)).ce → (itr (rnR N wt fd (pR N n out) (pP N n out).1) n 0 (f0, g0)).1 (128 * pO N out + z) = itr (runS N wt (stS N) (pR N n out) (pP N n out).1 fd') (pO N out + 1) 0 (fun _ => 0) (plN (pP N n out).1 (pO N out) + z)) := by
  have hSo : pO N out ≤ out := stS_le (wfN.inn hwf) out ho
  have e : itr (runS N wt (stS N) (pR N n out) (pP N n out).1 fd') (pO N out + 1) 0 (fun _ => 0) = itr (runS N wt (stS N) (pR N n out) (pP N n out).1 fd) (pO N out + 1) 0 (fun _ => 0) := itr_congr (fun m _ hm f => (runS_fd hwf h (by omega) f).symm)
  rw [e]
  refine ⟨fun j hj => ?_, fun z hz => ?_⟩
  · rw [(run_inv hwf hn ho f0 g0 hg n (Nat.le_refl _)).1 j hj, run_top hwf ho]
  · rw [rnR_top hwf ho, itr_snoc, itr_snoc, Nat.zero_add]
    obtain ⟨-, iB, iC⟩ := run_inv (wt := wt) (fd := fd) hwf hn ho f0 g0 hg (pO N out) (by omega)
    have hr := pR_o N n out
    generalize itr (rnR N wt fd (pR N n out) (pP N n out).1) (pO N out) 0 (f0, g0) = q at iB iC ⊢
    generalize itr (runS N wt (stS N) (pR N n out) (pP N n out).1 fd) (pO N out) 0 (fun _ => 0) = c at iB iC ⊢
    have e2 := vM_vB (wt := wt) (fd := fd) hwf ho (show pO N out < n by omega) hr iB iC hz
    unfold rnR runS
    rw [if_neg (by omega), if_pos hr]
    dsimp only
    rw [stp_in hz, if_pos hr, stp_in hz, e2]
end RUNO
def rX.rf (Y : rX) (f g : Nat → Int32) (an sz : Int32) (ss : UInt64) (u : Nat → Int32) : rX := (Y.fa, Y.ws, Y.no, Y.ou, Y.cm, Y.sn, Y.pk, an, sz, ss, Y.N, Y.w, f, Y.fe, Y.st, Y.ro, Y.sp, Y.la, Y.pl, g, u)
theorem rn_wan {Y : rX} {f g : Nat → Int32} {v : Int32} : (Y.rn f g).wan v = Y.rf f g v Y.sz Y.ss Y.sh := rfl
section RF
variable {Y : rX} {f g u : Nat → Int32} {an sz : Int32} {ss : UInt64}
theorem rf_wsz {v : Int32} : (Y.rf f g an sz ss u).wsz v = Y.rf f g an v ss u := rfl
theorem rf_wss {v : UInt64} : (Y.rf f g an sz ss u).wss v = Y.rf f g an sz v u := rfl
theorem rf_wsh {v : Nat → Int32} : (Y.rf f g an sz ss u).wsh v = Y.rf f g an sz ss v := rfl
theorem rf_N : (Y.rf f g an sz ss u).N = Y.N := rfl
theorem rf_ou : (Y.rf f g an sz ss u).ou = Y.ou := rfl
theorem rf_ce : (Y.rf f g an sz ss u).ce = f := rfl
theorem rf_sh : (Y.rf f g an sz ss u).sh = u := rfl
theorem rf_fa : (Y.rf f g an sz ss u).fa = Y.fa := rfl
end RF
/-- from the end of the nodes' loop on -/
theorem c_R_show (b : rk_H) (A : Nat → Nat) (Y : rX) (k : rA A) (P : rk_P) (a : Int32) (out o : Nat) (f g : Nat → Int32) (ho : out < 14) (ho2 : o < 14) (hou : Y.ou = some out) (hst : Y.st out = nI o) (hce : (Y.N o).ce = (Y.N out).ce) (hc : (Y.N o).ce ≤ 128)
    (nx : ∀ u : Nat → Int32, (∀ j, j < (Y.N o).ce → u j = f (128 * o + j)) → P (.inl (some (.int (itr (fun i q => q + f (128 * o + i)) (Y.N o).ce 0 0)))) (rv b A (Y.rf f g Y.pk (nI (Y.N out).ce) (Y.N out).sc u))) :
    rk_Run mR_run (5, 94, 0, 0) P 160 [some (.ref (A 0)), some (.int a), none, none, none] [] (rv b A (Y.rn f g)) (0, 0) := by
  have loop : ∀ (k1 j : Nat) (u : Nat → Int32) (q : Int32), j + k1 = (Y.N o).ce → (∀ i, i < j → u i = f (128 * o + i)) → itr (fun i q => q + f (128 * o + i)) k1 j q = itr (fun i q => q + f (128 * o + i)) (Y.N o).ce 0 0 → rk_Run mR_run (5, 94, 0, 0) P 208 [some (.ref (A 0)), some (.int a), some (.int (nI o)), some (.int q), some (.int (nI j))] [] (rv b A (Y.rf f g Y.pk (nI (Y.N out).ce) (Y.N out).sc u)) (0, 0) := by
    intro k1
    induction k1 with
    | zero =>
      intro j u q hj hu hq
      have hj : j = (Y.N o).ce := by omega
      subst hj
      have hq : q = _ := hq
      have e := nx u hu
      rw [← hq] at e
      refine rk_iload dR_run_208 rfl ?_
      refine rk_aload_n dR_run_210 rfl ?_
      refine rk_iload_n dR_run_211 rfl ?_
      refine rk_cvV (c_R_cells b A _ k o ho2) cR_137 dR_run_212 rfl lR_cells (Nat.le_of_ble_eq_true rfl) (Nat.le_of_ble_eq_true rfl) (Nat.le_of_ble_eq_true rfl) (Nat.le_of_ble_eq_true rfl) k.m ?_
      rw [rf_N]
      refine rk_icmp_ge 254 dR_run_215 (by decide) (fun q_215 => ?_) (fun q_215 => ?_)
      · refine rk_iload_n dR_run_254 rfl ?_
        exact rk_iret rfl dR_run_255 ⟨(Nat.le_of_ble_eq_true rfl), (Nat.le_of_ble_eq_true rfl)⟩ (e)
      · exact absurd (nI_le (Nat.le_refl _) (by omega)) q_215
    | succ k1 ih =>
      intro j u q hj hu hq
      have nxt := ih (j + 1) (upd u j (f (128 * o + j))) (q + f (128 * o + j)) (by omega) (fun i hi => by
        unfold upd
        by_cases hz : i = j
        · rw [if_pos hz, hz]
        · rw [if_neg hz]; exact hu i (by omega)) hq
      refine rk_iload dR_run_208 rfl ?_
      refine rk_aload_n dR_run_210 rfl ?_
      refine rk_iload_n dR_run_211 rfl ?_
      refine rk_cvV (c_R_cells b A _ k o ho2) cR_137 dR_run_212 rfl lR_cells (Nat.le_of_ble_eq_true rfl) (Nat.le_of_ble_eq_true rfl) (Nat.le_of_ble_eq_true rfl) (Nat.le_of_ble_eq_true rfl) k.m ?_
      rw [rf_N]
      refine rk_icmp_ge 254 dR_run_215 (by decide) (fun q_215 => (by exact absurd q_215 (nI_ge (by omega) (by omega)))) (fun q_215 => ?_)
      refine rk_aload_n dR_run_218 rfl ?_
      refine rk_getf fR_82 dR_run_219 k.m rfl ?_
      refine rk_iload dR_run_222 rfl ?_
      refine rk_aload_n dR_run_224 rfl ?_
      refine rk_getf fR_54 dR_run_225 k.m rfl ?_
      refine rk_sipush (v := 128) dR_run_228 (by decide) ?_
      refine rk_iload_n dR_run_231 rfl ?_
      refine rk_imul dR_run_232 ?_
      refine rk_iload dR_run_233 rfl ?_
      refine rk_iadd dR_run_235 ?_
      rw [show (128 : Int32) = nI 128 from rfl, pk_mul, nI_add]
      refine rk_iald dR_run_236 k.ce (vp_in_nI (show 128 * o + j < 1792 by omega) (by omega)) ?_
      rw [nI_clamp (show 128 * o + j < 2 ^ 31 by omega), rf_ce]
      refine rk_iast dR_run_237 k.sh (vp_in_nI (show j < 128 by omega) (by omega)) ?_
      rw [k.ush]
      rw [nI_clamp (show j < 2 ^ 31 by omega), rf_wsh, rf_sh]
      refine rk_iload_n dR_run_238 rfl ?_
      refine rk_aload_n dR_run_239 rfl ?_
      refine rk_getf fR_82 dR_run_240 k.m rfl ?_
      refine rk_iload dR_run_243 rfl ?_
      refine rk_iald dR_run_245 k.sh (vp_in_nI (show j < 128 by omega) (by omega)) ?_
      rw [nI_clamp (show j < 2 ^ 31 by omega), rf_sh, show upd u j (f (128 * o + j)) j = f (128 * o + j) from if_pos rfl]
      refine rk_iadd dR_run_246 ?_
      refine rk_istore_n dR_run_247 (Nat.le_of_ble_eq_true rfl) ?_
      refine rk_lv [some (.ref (A 0)), some (.int a), some (.int (nI o)), some (.int (q + f (128 * o + j))), some (.int (nI j))] ⟨rfl, rfl, rfl, rfl, rfl, trivial⟩ ?_
      refine rk_iinc dR_run_248 rfl (inc1 j) (Nat.le_of_ble_eq_true rfl) ?_
      refine rk_goto 208 dR_run_251 (by decide) ?_
      exact nxt
  refine rk_aload_n dR_run_160 rfl ?_
  refine rk_getf fR_64 dR_run_161 k.m rfl ?_
  refine rk_aload_n dR_run_164 rfl ?_
  refine rk_getf fR_60 dR_run_165 k.m rfl ?_
  rw [rn_ou, hou]
  refine rk_iald dR_run_168 k.st (vp_in_nI (show out < 14 by omega) (by omega)) ?_
  rw [rn_st, show (oI (some out)).toNatClampNeg = out from nI_clamp (show out < 2 ^ 31 by omega), hst]
  refine rk_istore_n dR_run_169 (Nat.le_of_ble_eq_true rfl) ?_
  refine rk_iconst (v := 0) dR_run_170 (by decide) ?_
  refine rk_istore_n dR_run_171 (Nat.le_of_ble_eq_true rfl) ?_
  refine rk_lv [some (.ref (A 0)), some (.int a), some (.int (nI o)), some (.int 0), none] ⟨rfl, rfl, rfl, rfl, trivial⟩ ?_
  refine rk_aload_n dR_run_172 rfl ?_
  refine rk_aload_n dR_run_173 rfl ?_
  refine rk_getf fR_158 dR_run_174 k.m rfl ?_
  rw [rn_pk]
  refine rk_putf pR_232 dR_run_177 k.m (Nat.le_of_ble_eq_true rfl) rfl rfl ?_
  rw [k.uan]
  rw [rn_wan]
  refine rk_aload_n dR_run_180 rfl ?_
  refine rk_aload_n dR_run_181 rfl ?_
  refine rk_aload_n dR_run_182 rfl ?_
  refine rk_getf fR_60 dR_run_183 k.m rfl ?_
  rw [rf_ou, hou]
  refine rk_cvV (c_R_cells b A _ k out ho) cR_137 dR_run_186 rfl lR_cells (Nat.le_of_ble_eq_true rfl) (Nat.le_of_ble_eq_true rfl) (Nat.le_of_ble_eq_true rfl) (Nat.le_of_ble_eq_true rfl) k.m ?_
  rw [rf_N]
  refine rk_putf pR_235 dR_run_189 k.m (Nat.le_of_ble_eq_true rfl) rfl rfl ?_
  rw [k.usz]
  rw [rf_wsz]
  refine rk_aload_n dR_run_192 rfl ?_
  refine rk_aload_n dR_run_193 rfl ?_
  refine rk_getf fR_35 dR_run_194 k.m rfl ?_
  refine rk_aload_n dR_run_197 rfl ?_
  refine rk_getf fR_60 dR_run_198 k.m rfl ?_
  rw [rf_ou, hou]
  refine rk_dald dR_run_201 k.sc (vp_in_nI (show out < 14 by omega) (by omega)) ?_
  rw [show (oI (some out)).toNatClampNeg = out from nI_clamp (show out < 2 ^ 31 by omega), rf_N]
  refine rk_putf pR_238 dR_run_202 k.m (Nat.le_of_ble_eq_true rfl) rfl rfl ?_
  rw [k.uss]
  rw [rf_wss]
  refine rk_iconst (v := 0) dR_run_205 (by decide) ?_
  refine rk_istore dR_run_206 (Nat.le_of_ble_eq_true rfl) ?_
  exact loop _ 0 Y.sh 0 (Nat.zero_add _) (fun i hi => absurd hi (Nat.not_lt_zero _)) rfl
