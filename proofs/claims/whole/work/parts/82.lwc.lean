/-! THE LAW, CASE BY CASE: both sides are called, and they agree -/
theorem lw_weights {A : Nat → Nat} {lo dq sb L ca : Nat} {xs : Nat → Int32} {b h : rk_H} {C : cT} {X : rX} {s : aS} {f : Nat → Int64} {g : Nat → UInt64} (K : lwK A lo dq sb L ca xs b h C X s f g) (i : Int32) (hb : ∀ j : Nat, j < 6 → vp_in (i + nI j) L) {u1 u2 : Nat} (hu : u1 + 9 ≤ 601024 ∧ u2 + 186 ≤ 7293034) (nx : ∀ h1 : rk_H, lwAt A lo dq sb L ca xs h1 → rk_Run mL_law lwB lwP 1633 (lwV A lo dq sb ca i) [] h1 (u1 + 9, u2 + 186)) : rk_Run mL_law lwB lwP 136 (lwV A lo dq sb ca i) [] h (u1, u2) := by
  obtain ⟨K, ok, kX⟩ := K
  obtain rfl := K.1.1
  have k := K.1.2.1
  have con1 := lk_weights C s.n h K.2.1.1.1.1 (opWeights s (xs (i + 1).toNatClampNeg) ((((xs (i + 2).toNatClampNeg).toInt64 <<< ((32 : Int32).toInt64 &&& 63)) ||| ((xs (i + 3).toNatClampNeg).toInt64 &&& 4294967295)))) oi_weights (xs (i + 1).toNatClampNeg) ((((xs (i + 2).toNatClampNeg).toInt64 <<< ((32 : Int32).toInt64 &&& 63)) ||| ((xs (i + 3).toNatClampNeg).toInt64 &&& 4294967295))) (c_T_weights C s (xs (i + 1).toNatClampNeg) ((((xs (i + 2).toNatClampNeg).toInt64 <<< ((32 : Int32).toInt64 &&& 63)) ||| ((xs (i + 3).toNatClampNeg).toInt64 &&& 4294967295))) h K.2.1.1 ok) lo f K.2.2.1 (fun q => (K.2.1.2 _ q).2.1 rfl)
  have con2 : ∀ h1 : rk_H, h1 = rv h1 A X → rk_Con mR_weights (1, 14, 0, 0) [.ref (A 0), .int (xs (i + 1).toNatClampNeg), .long ((((xs (i + 2).toNatClampNeg).toInt64 <<< ((32 : Int32).toInt64 &&& 63)) ||| ((xs (i + 3).toNatClampNeg).toInt64 &&& 4294967295)))] h1 (rPo h1 A (some (.int 0)) (opWeights s (xs (i + 1).toNatClampNeg) ((((xs (i + 2).toNatClampNeg).toInt64 <<< ((32 : Int32).toInt64 &&& 63)) ||| ((xs (i + 3).toNatClampNeg).toInt64 &&& 4294967295))))) := fun h1 e => lw_cast e (c_R_weights h1 A X s k kX ok (xs (i + 1).toNatClampNeg) ((((xs (i + 2).toNatClampNeg).toInt64 <<< ((32 : Int32).toInt64 &&& 63)) ||| ((xs (i + 3).toNatClampNeg).toInt64 &&& 4294967295))))
  have ok2 := ok.weights (xs (i + 1).toNatClampNeg) ((((xs (i + 2).toNatClampNeg).toInt64 <<< ((32 : Int32).toInt64 &&& 63)) ||| ((xs (i + 3).toNatClampNeg).toInt64 &&& 4294967295)))
  have hI : oInt (opWeights s (xs (i + 1).toNatClampNeg) ((((xs (i + 2).toNatClampNeg).toInt64 <<< ((32 : Int32).toInt64 &&& 63)) ||| ((xs (i + 3).toNatClampNeg).toInt64 &&& 4294967295)))) 1 := oi_weights
  generalize (opWeights s (xs (i + 1).toNatClampNeg) ((((xs (i + 2).toNatClampNeg).toInt64 <<< ((32 : Int32).toInt64 &&& 63)) ||| ((xs (i + 3).toNatClampNeg).toInt64 &&& 4294967295)))) = res at con1 con2 ok2 hI
  refine rk_aload_n dL_law_136 rfl ?_
  refine rk_aload_n dL_law_137 rfl ?_
  refine rk_iload dL_law_138 rfl ?_
  refine rk_iconst (v := 1) dL_law_140 (by decide) ?_
  refine rk_iadd dL_law_141 ?_
  refine rk_sald dL_law_142 (by first | exact K.2.2.2.2 | exact K1.2.2.2.2 | assumption) (hb 1 (by decide)) ?_
  refine rk_aload_n dL_law_143 rfl ?_
  refine rk_iload dL_law_144 rfl ?_
  refine rk_iconst (v := 2) dL_law_146 (by decide) ?_
  refine rk_iadd dL_law_147 ?_
  refine rk_sald dL_law_148 (by first | exact K.2.2.2.2 | exact K1.2.2.2.2 | assumption) (hb 2 (by decide)) ?_
  refine rk_i2l dL_law_149 ?_
  refine rk_bipush (v := 32) dL_law_150 (by decide) ?_
  refine rk_lshl dL_law_152 ?_
  refine rk_aload_n dL_law_153 rfl ?_
  refine rk_iload dL_law_154 rfl ?_
  refine rk_iconst (v := 3) dL_law_156 (by decide) ?_
  refine rk_iadd dL_law_157 ?_
  refine rk_sald dL_law_158 (by first | exact K.2.2.2.2 | exact K1.2.2.2.2 | assumption) (hb 3 (by decide)) ?_
  refine rk_i2l dL_law_159 ?_
  refine rk_ldc2 qL_94 dL_law_160 ?_
  refine rk_land dL_law_163 ?_
  refine rk_lor dL_law_164 ?_
  refine rk_aload_n dL_law_165 rfl ?_
  refine rk_csG (con1) cL_96 dL_law_166 rfl lL_weights (Nat.le_of_ble_eq_true rfl) (Nat.le_of_ble_eq_true rfl) hu.1 hu.2 ?_
  intro r1 h1 p1
  obtain ⟨rfl, C1, f1, K1, hE⟩ := K.callL p1
  refine rk_nxv ?_
  refine rk_istore dL_law_169 (Nat.le_of_ble_eq_true rfl) ?_
  refine rk_lv [some (.ref sb), some (.ref C.a), some (.ref (A 0)), some (.ref lo), some (.ref dq), some (.int i), some (.int (nI res.1)), none, none] ⟨rfl, rfl, rfl, rfl, rfl, rfl, rfl, trivial⟩ ?_
  refine rk_aload_n dL_law_171 rfl ?_
  refine rk_aload_n dL_law_172 rfl ?_
  refine rk_iload dL_law_173 rfl ?_
  refine rk_iconst (v := 1) dL_law_175 (by decide) ?_
  refine rk_iadd dL_law_176 ?_
  refine rk_sald dL_law_177 (by first | exact K.2.2.2.2 | exact K1.2.2.2.2 | assumption) (hb 1 (by decide)) ?_
  refine rk_aload_n dL_law_178 rfl ?_
  refine rk_iload dL_law_179 rfl ?_
  refine rk_iconst (v := 2) dL_law_181 (by decide) ?_
  refine rk_iadd dL_law_182 ?_
  refine rk_sald dL_law_183 (by first | exact K.2.2.2.2 | exact K1.2.2.2.2 | assumption) (hb 2 (by decide)) ?_
  refine rk_i2l dL_law_184 ?_
  refine rk_bipush (v := 32) dL_law_185 (by decide) ?_
  refine rk_lshl dL_law_187 ?_
  refine rk_aload_n dL_law_188 rfl ?_
  refine rk_iload dL_law_189 rfl ?_
  refine rk_iconst (v := 3) dL_law_191 (by decide) ?_
  refine rk_iadd dL_law_192 ?_
  refine rk_sald dL_law_193 (by first | exact K.2.2.2.2 | exact K1.2.2.2.2 | assumption) (hb 3 (by decide)) ?_
  refine rk_i2l dL_law_194 ?_
  refine rk_ldc2 qL_94 dL_law_195 ?_
  refine rk_land dL_law_198 ?_
  refine rk_lor dL_law_199 ?_
  refine rk_cvG (con2 h1 K1.1.2.2.1) cL_101 dL_law_200 rfl lR_weights (Nat.le_of_ble_eq_true rfl) (Nat.le_of_ble_eq_true rfl) hu.1 hu.2 ((congrFun K1.1.2.2.1 _).trans k.m) ?_
  intro r2 h2 p2
  obtain ⟨w, X2, rfl, rfl, e3, e4, K2⟩ := K1.refL hE hI (by decide) ok2 p2
  refine rk_nxv ?_
  refine rk_istore dL_law_203 (Nat.le_of_ble_eq_true rfl) ?_
  refine rk_lv [some (.ref sb), some (.ref C.a), some (.ref (A 0)), some (.ref lo), some (.ref dq), some (.int i), some (.int (nI res.1)), some (.int w), none] ⟨rfl, rfl, rfl, rfl, rfl, rfl, rfl, rfl, trivial⟩ ?_
  refine rk_aload_n dL_law_205 rfl ?_
  refine rk_cvV (c_R_thrown h1 A X2 k) cL_102 dL_law_206 rfl lR_thrown (Nat.le_of_ble_eq_true rfl) (Nat.le_of_ble_eq_true rfl) hu.1 hu.2 k.m ?_
  refine rk_iload dL_law_209 rfl ?_
  refine rk_icmp_eq 216 dL_law_211 (by decide) (fun q_211 => ?_) (fun q_211 => (by exact absurd e3 q_211))
  refine rk_iload dL_law_216 rfl ?_
  refine rk_if_ne 233 dL_law_218 (by decide) (fun q_218 => ?_) (fun q_218 => ?_)
  · refine rk_goto 1633 dL_law_233 (by decide) ?_
    refine rk_lv [some (.ref sb), some (.ref C.a), some (.ref (A 0)), some (.ref lo), some (.ref dq), some (.int i), none, none, none] ⟨rfl, rfl, rfl, rfl, rfl, rfl, trivial⟩ ?_
    exact nx _ ⟨_, _, _, _, _, _, K2⟩
  · refine rk_aload_n dL_law_221 rfl ?_
    refine rk_iconst (v := 0) dL_law_222 (by decide) ?_
    refine rk_lald dL_law_223 (by first | exact K2.1.2.2.1 | assumption) (by first | exact vp00 | assumption) ?_
    refine rk_iload dL_law_224 rfl ?_
    refine rk_i2l dL_law_226 ?_
    refine rk_lcmp dL_law_227 ?_
    refine rk_if_eq 233 dL_law_228 (by decide) (fun q_228 => ?_) (fun q_228 => (by exact absurd (lw_cmp (e4 q_218)) q_228))
    refine rk_goto 1633 dL_law_233 (by decide) ?_
    refine rk_lv [some (.ref sb), some (.ref C.a), some (.ref (A 0)), some (.ref lo), some (.ref dq), some (.int i), none, none, none] ⟨rfl, rfl, rfl, rfl, rfl, rfl, trivial⟩ ?_
    exact nx _ ⟨_, _, _, _, _, _, K2⟩
theorem lw_weightScale {A : Nat → Nat} {lo dq sb L ca : Nat} {xs : Nat → Int32} {b h : rk_H} {C : cT} {X : rX} {s : aS} {f : Nat → Int64} {g : Nat → UInt64} (K : lwK A lo dq sb L ca xs b h C X s f g) (i : Int32) (hb : ∀ j : Nat, j < 6 → vp_in (i + nI j) L) {u1 u2 : Nat} (hu : u1 + 9 ≤ 601024 ∧ u2 + 186 ≤ 7293034) (nx : ∀ h1 : rk_H, lwAt A lo dq sb L ca xs h1 → rk_Run mL_law lwB lwP 1633 (lwV A lo dq sb ca i) [] h1 (u1 + 9, u2 + 186)) : rk_Run mL_law lwB lwP 236 (lwV A lo dq sb ca i) [] h (u1, u2) := by
  obtain ⟨K, ok, kX⟩ := K
  obtain rfl := K.1.1
  have k := K.1.2.1
  have con1 := lk_weightScale C s.n h K.2.1.1.1.1 (opWeightScale s (FP.dmul (FP.i2d (xs (i + 1).toNatClampNeg)) 4593671619917905920)) oi_weightScale (FP.dmul (FP.i2d (xs (i + 1).toNatClampNeg)) 4593671619917905920) (c_T_weightScale C s (FP.dmul (FP.i2d (xs (i + 1).toNatClampNeg)) 4593671619917905920) h K.2.1.1)
  have con2 : ∀ h1 : rk_H, h1 = rv h1 A X → rk_Con mR_weightScale (1, 14, 0, 0) [.ref (A 0), .double (FP.dmul (FP.i2d (xs (i + 1).toNatClampNeg)) 4593671619917905920)] h1 (rPo h1 A none (opWeightScale s (FP.dmul (FP.i2d (xs (i + 1).toNatClampNeg)) 4593671619917905920))) := fun h1 e => lw_cast e (c_R_weightScale h1 A X s k kX ok (FP.dmul (FP.i2d (xs (i + 1).toNatClampNeg)) 4593671619917905920) (law_ds (xs (i + 1).toNatClampNeg)))
  have ok2 := ok.weightScale (FP.dmul (FP.i2d (xs (i + 1).toNatClampNeg)) 4593671619917905920)
  have hI : oVoid (opWeightScale s (FP.dmul (FP.i2d (xs (i + 1).toNatClampNeg)) 4593671619917905920)) 1 := oi_weightScale
  generalize (opWeightScale s (FP.dmul (FP.i2d (xs (i + 1).toNatClampNeg)) 4593671619917905920)) = res at con1 con2 ok2 hI
  refine rk_aload_n dL_law_236 rfl ?_
  refine rk_aload_n dL_law_237 rfl ?_
  refine rk_iload dL_law_238 rfl ?_
  refine rk_iconst (v := 1) dL_law_240 (by decide) ?_
  refine rk_iadd dL_law_241 ?_
  refine rk_sald dL_law_242 (by first | exact K.2.2.2.2 | exact K1.2.2.2.2 | assumption) (hb 1 (by decide)) ?_
  refine rk_i2d dL_law_243 ?_
  refine rk_ldc2d qL_105 dL_law_244 ?_
  refine rk_dmul dL_law_247 (f_nan (f_law _)) ?_
  refine rk_csG (con1) cL_107 dL_law_248 rfl lL_weightScale (Nat.le_of_ble_eq_true rfl) (Nat.le_of_ble_eq_true rfl) hu.1 hu.2 ?_
  intro r1 h1 p1
  obtain ⟨rfl, C1, K1⟩ := K.callV p1
  refine rk_nxv ?_
  refine rk_istore dL_law_251 (Nat.le_of_ble_eq_true rfl) ?_
  refine rk_lv [some (.ref sb), some (.ref C.a), some (.ref (A 0)), some (.ref lo), some (.ref dq), some (.int i), some (.int (nI res.1)), none, none] ⟨rfl, rfl, rfl, rfl, rfl, rfl, rfl, trivial⟩ ?_
  refine rk_aload_n dL_law_253 rfl ?_
  refine rk_aload_n dL_law_254 rfl ?_
  refine rk_iload dL_law_255 rfl ?_
  refine rk_iconst (v := 1) dL_law_257 (by decide) ?_
  refine rk_iadd dL_law_258 ?_
  refine rk_sald dL_law_259 (by first | exact K.2.2.2.2 | exact K1.2.2.2.2 | assumption) (hb 1 (by decide)) ?_
  refine rk_i2d dL_law_260 ?_
  refine rk_ldc2d qL_105 dL_law_261 ?_
  refine rk_dmul dL_law_264 (f_nan (f_law _)) ?_
  refine rk_cvG (con2 h1 K1.1.2.2.1) cL_110 dL_law_265 rfl lR_weightScale (Nat.le_of_ble_eq_true rfl) (Nat.le_of_ble_eq_true rfl) hu.1 hu.2 ((congrFun K1.1.2.2.1 _).trans k.m) ?_
  intro r2 h2 p2
  obtain ⟨X2, rfl, rfl, e3, K2⟩ := K1.refV hI ok2 p2
  refine rk_nx0 ?_
  refine rk_aload_n dL_law_268 rfl ?_
  refine rk_cvV (c_R_thrown h1 A X2 k) cL_102 dL_law_269 rfl lR_thrown (Nat.le_of_ble_eq_true rfl) (Nat.le_of_ble_eq_true rfl) hu.1 hu.2 k.m ?_
  refine rk_iload dL_law_272 rfl ?_
  refine rk_icmp_eq 279 dL_law_274 (by decide) (fun q_274 => ?_) (fun q_274 => (by exact absurd e3 q_274))
  refine rk_goto 1633 dL_law_279 (by decide) ?_
  refine rk_lv [some (.ref sb), some (.ref C.a), some (.ref (A 0)), some (.ref lo), some (.ref dq), some (.int i), none, none, none] ⟨rfl, rfl, rfl, rfl, rfl, rfl, trivial⟩ ?_
  exact nx _ ⟨_, _, _, _, _, _, K2⟩
theorem lw_input {A : Nat → Nat} {lo dq sb L ca : Nat} {xs : Nat → Int32} {b h : rk_H} {C : cT} {X : rX} {s : aS} {f : Nat → Int64} {g : Nat → UInt64} (K : lwK A lo dq sb L ca xs b h C X s f g) (i : Int32) (hb : ∀ j : Nat, j < 6 → vp_in (i + nI j) L) {u1 u2 : Nat} (hu : u1 + 9 ≤ 601024 ∧ u2 + 186 ≤ 7293034) (nx : ∀ h1 : rk_H, lwAt A lo dq sb L ca xs h1 → rk_Run mL_law lwB lwP 1633 (lwV A lo dq sb ca i) [] h1 (u1 + 9, u2 + 186)) : rk_Run mL_law lwB lwP 282 (lwV A lo dq sb ca i) [] h (u1, u2) := by
  obtain ⟨K, ok, kX⟩ := K
  obtain rfl := K.1.1
  have k := K.1.2.1
  have con1 := lk_input C s.n h K.2.1.1.1.1 (opInput s (xs (i + 1).toNatClampNeg) (xs (i + 2).toNatClampNeg) (xs (i + 3).toNatClampNeg) (FP.dmul (FP.i2d (xs (i + 4).toNatClampNeg)) 4593671619917905920)) oi_input (xs (i + 1).toNatClampNeg) (xs (i + 2).toNatClampNeg) (xs (i + 3).toNatClampNeg) (FP.dmul (FP.i2d (xs (i + 4).toNatClampNeg)) 4593671619917905920) (c_T_input C s (xs (i + 1).toNatClampNeg) (xs (i + 2).toNatClampNeg) (xs (i + 3).toNatClampNeg) (FP.dmul (FP.i2d (xs (i + 4).toNatClampNeg)) 4593671619917905920) h K.2.1.1 ok) lo f K.2.2.1 (fun q => (K.2.1.2 _ q).2.1 rfl)
  have con2 : ∀ h1 : rk_H, h1 = rv h1 A X → rk_Con mR_input (1, 21, 0, 0) [.ref (A 0), .int (xs (i + 1).toNatClampNeg), .int (xs (i + 2).toNatClampNeg), .int (xs (i + 3).toNatClampNeg), .double (FP.dmul (FP.i2d (xs (i + 4).toNatClampNeg)) 4593671619917905920)] h1 (rPo h1 A (some (.int 0)) (opInput s (xs (i + 1).toNatClampNeg) (xs (i + 2).toNatClampNeg) (xs (i + 3).toNatClampNeg) (FP.dmul (FP.i2d (xs (i + 4).toNatClampNeg)) 4593671619917905920))) := fun h1 e => lw_cast e (c_R_input h1 A X s k kX ok (xs (i + 1).toNatClampNeg) (xs (i + 2).toNatClampNeg) (xs (i + 3).toNatClampNeg) (FP.dmul (FP.i2d (xs (i + 4).toNatClampNeg)) 4593671619917905920) (law_ds (xs (i + 4).toNatClampNeg)))
  have ok2 := ok.input (xs (i + 1).toNatClampNeg) (xs (i + 2).toNatClampNeg) (xs (i + 3).toNatClampNeg) (FP.dmul (FP.i2d (xs (i + 4).toNatClampNeg)) 4593671619917905920)
  have hI : oInt (opInput s (xs (i + 1).toNatClampNeg) (xs (i + 2).toNatClampNeg) (xs (i + 3).toNatClampNeg) (FP.dmul (FP.i2d (xs (i + 4).toNatClampNeg)) 4593671619917905920)) 2 := oi_input
  generalize (opInput s (xs (i + 1).toNatClampNeg) (xs (i + 2).toNatClampNeg) (xs (i + 3).toNatClampNeg) (FP.dmul (FP.i2d (xs (i + 4).toNatClampNeg)) 4593671619917905920)) = res at con1 con2 ok2 hI
  refine rk_aload_n dL_law_282 rfl ?_
  refine rk_aload_n dL_law_283 rfl ?_
  refine rk_iload dL_law_284 rfl ?_
  refine rk_iconst (v := 1) dL_law_286 (by decide) ?_
  refine rk_iadd dL_law_287 ?_
  refine rk_sald dL_law_288 (by first | exact K.2.2.2.2 | exact K1.2.2.2.2 | assumption) (hb 1 (by decide)) ?_
  refine rk_aload_n dL_law_289 rfl ?_
  refine rk_iload dL_law_290 rfl ?_
  refine rk_iconst (v := 2) dL_law_292 (by decide) ?_
  refine rk_iadd dL_law_293 ?_
  refine rk_sald dL_law_294 (by first | exact K.2.2.2.2 | exact K1.2.2.2.2 | assumption) (hb 2 (by decide)) ?_
  refine rk_aload_n dL_law_295 rfl ?_
  refine rk_iload dL_law_296 rfl ?_
  refine rk_iconst (v := 3) dL_law_298 (by decide) ?_
  refine rk_iadd dL_law_299 ?_
  refine rk_sald dL_law_300 (by first | exact K.2.2.2.2 | exact K1.2.2.2.2 | assumption) (hb 3 (by decide)) ?_
  refine rk_aload_n dL_law_301 rfl ?_
  refine rk_iload dL_law_302 rfl ?_
  refine rk_iconst (v := 4) dL_law_304 (by decide) ?_
  refine rk_iadd dL_law_305 ?_
  refine rk_sald dL_law_306 (by first | exact K.2.2.2.2 | exact K1.2.2.2.2 | assumption) (hb 4 (by decide)) ?_
  refine rk_i2d dL_law_307 ?_
  refine rk_ldc2d qL_105 dL_law_308 ?_
  refine rk_dmul dL_law_311 (f_nan (f_law _)) ?_
  refine rk_aload_n dL_law_312 rfl ?_
  refine rk_csG (con1) cL_111 dL_law_313 rfl lL_input (Nat.le_of_ble_eq_true rfl) (Nat.le_of_ble_eq_true rfl) hu.1 hu.2 ?_
  intro r1 h1 p1
  obtain ⟨rfl, C1, f1, K1, hE⟩ := K.callL p1
  refine rk_nxv ?_
  refine rk_istore dL_law_316 (Nat.le_of_ble_eq_true rfl) ?_
  refine rk_lv [some (.ref sb), some (.ref C.a), some (.ref (A 0)), some (.ref lo), some (.ref dq), some (.int i), some (.int (nI res.1)), none, none] ⟨rfl, rfl, rfl, rfl, rfl, rfl, rfl, trivial⟩ ?_
  refine rk_aload_n dL_law_318 rfl ?_
  refine rk_aload_n dL_law_319 rfl ?_
  refine rk_iload dL_law_320 rfl ?_
  refine rk_iconst (v := 1) dL_law_322 (by decide) ?_
  refine rk_iadd dL_law_323 ?_
  refine rk_sald dL_law_324 (by first | exact K.2.2.2.2 | exact K1.2.2.2.2 | assumption) (hb 1 (by decide)) ?_
  refine rk_aload_n dL_law_325 rfl ?_
  refine rk_iload dL_law_326 rfl ?_
  refine rk_iconst (v := 2) dL_law_328 (by decide) ?_
  refine rk_iadd dL_law_329 ?_
  refine rk_sald dL_law_330 (by first | exact K.2.2.2.2 | exact K1.2.2.2.2 | assumption) (hb 2 (by decide)) ?_
  refine rk_aload_n dL_law_331 rfl ?_
  refine rk_iload dL_law_332 rfl ?_
  refine rk_iconst (v := 3) dL_law_334 (by decide) ?_
  refine rk_iadd dL_law_335 ?_
  refine rk_sald dL_law_336 (by first | exact K.2.2.2.2 | exact K1.2.2.2.2 | assumption) (hb 3 (by decide)) ?_
  refine rk_aload_n dL_law_337 rfl ?_
  refine rk_iload dL_law_338 rfl ?_
  refine rk_iconst (v := 4) dL_law_340 (by decide) ?_
  refine rk_iadd dL_law_341 ?_
  refine rk_sald dL_law_342 (by first | exact K.2.2.2.2 | exact K1.2.2.2.2 | assumption) (hb 4 (by decide)) ?_
  refine rk_i2d dL_law_343 ?_
  refine rk_ldc2d qL_105 dL_law_344 ?_
  refine rk_dmul dL_law_347 (f_nan (f_law _)) ?_
  refine rk_cvG (con2 h1 K1.1.2.2.1) cL_114 dL_law_348 rfl lR_input (Nat.le_of_ble_eq_true rfl) (Nat.le_of_ble_eq_true rfl) hu.1 hu.2 ((congrFun K1.1.2.2.1 _).trans k.m) ?_
  intro r2 h2 p2
  obtain ⟨w, X2, rfl, rfl, e3, e4, K2⟩ := K1.refL hE hI (by decide) ok2 p2
  refine rk_nxv ?_
  refine rk_istore dL_law_351 (Nat.le_of_ble_eq_true rfl) ?_
  refine rk_lv [some (.ref sb), some (.ref C.a), some (.ref (A 0)), some (.ref lo), some (.ref dq), some (.int i), some (.int (nI res.1)), some (.int w), none] ⟨rfl, rfl, rfl, rfl, rfl, rfl, rfl, rfl, trivial⟩ ?_
  refine rk_aload_n dL_law_353 rfl ?_
  refine rk_cvV (c_R_thrown h1 A X2 k) cL_102 dL_law_354 rfl lR_thrown (Nat.le_of_ble_eq_true rfl) (Nat.le_of_ble_eq_true rfl) hu.1 hu.2 k.m ?_
  refine rk_iload dL_law_357 rfl ?_
  refine rk_icmp_eq 364 dL_law_359 (by decide) (fun q_359 => ?_) (fun q_359 => (by exact absurd e3 q_359))
  refine rk_iload dL_law_364 rfl ?_
  refine rk_if_ne 381 dL_law_366 (by decide) (fun q_366 => ?_) (fun q_366 => ?_)
  · refine rk_goto 1633 dL_law_381 (by decide) ?_
    refine rk_lv [some (.ref sb), some (.ref C.a), some (.ref (A 0)), some (.ref lo), some (.ref dq), some (.int i), none, none, none] ⟨rfl, rfl, rfl, rfl, rfl, rfl, trivial⟩ ?_
    exact nx _ ⟨_, _, _, _, _, _, K2⟩
  · refine rk_aload_n dL_law_369 rfl ?_
    refine rk_iconst (v := 0) dL_law_370 (by decide) ?_
    refine rk_lald dL_law_371 (by first | exact K2.1.2.2.1 | assumption) (by first | exact vp00 | assumption) ?_
    refine rk_iload dL_law_372 rfl ?_
    refine rk_i2l dL_law_374 ?_
    refine rk_lcmp dL_law_375 ?_
    refine rk_if_eq 381 dL_law_376 (by decide) (fun q_376 => ?_) (fun q_376 => (by exact absurd (lw_cmp (e4 q_366)) q_376))
    refine rk_goto 1633 dL_law_381 (by decide) ?_
    refine rk_lv [some (.ref sb), some (.ref C.a), some (.ref (A 0)), some (.ref lo), some (.ref dq), some (.int i), none, none, none] ⟨rfl, rfl, rfl, rfl, rfl, rfl, trivial⟩ ?_
    exact nx _ ⟨_, _, _, _, _, _, K2⟩
theorem lw_windowsz {A : Nat → Nat} {lo dq sb L ca : Nat} {xs : Nat → Int32} {b h : rk_H} {C : cT} {X : rX} {s : aS} {f : Nat → Int64} {g : Nat → UInt64} (K : lwK A lo dq sb L ca xs b h C X s f g) (i : Int32) (hb : ∀ j : Nat, j < 6 → vp_in (i + nI j) L) {u1 u2 : Nat} (hu : u1 + 9 ≤ 601024 ∧ u2 + 186 ≤ 7293034) (hz : xs (i + 3).toNatClampNeg = 0) (nx : ∀ h1 : rk_H, lwAt A lo dq sb L ca xs h1 → rk_Run mL_law lwB lwP 1633 (lwV A lo dq sb ca i) [] h1 (u1 + 9, u2 + 186)) : rk_Run mL_law lwB lwP 384 (lwV A lo dq sb ca i) [] h (u1, u2) := by
  obtain ⟨K, ok, kX⟩ := K
  obtain rfl := K.1.1
  have k := K.1.2.1
  have con1 := lk_windows C s.n h K.2.1.1.1.1 (opWindows s (xs (i + 1).toNatClampNeg) (xs (i + 2).toNatClampNeg) (0) (xs (i + 4).toNatClampNeg) (FP.dmul (FP.i2d (xs (i + 5).toNatClampNeg)) 4593671619917905920)) oi_windows (xs (i + 1).toNatClampNeg) (xs (i + 2).toNatClampNeg) (0) (xs (i + 4).toNatClampNeg) (FP.dmul (FP.i2d (xs (i + 5).toNatClampNeg)) 4593671619917905920) (c_T_windows C s (xs (i + 1).toNatClampNeg) (xs (i + 2).toNatClampNeg) (0) (xs (i + 4).toNatClampNeg) (FP.dmul (FP.i2d (xs (i + 5).toNatClampNeg)) 4593671619917905920) h K.2.1.1 ok) lo f K.2.2.1 (fun q => (K.2.1.2 _ q).2.1 rfl)
  have con2 : ∀ h1 : rk_H, h1 = rv h1 A X → rk_Con mR_windows (2, 33, 0, 0) [.ref (A 0), .int (xs (i + 1).toNatClampNeg), .int (xs (i + 2).toNatClampNeg), .int (0), .int (xs (i + 4).toNatClampNeg), .double (FP.dmul (FP.i2d (xs (i + 5).toNatClampNeg)) 4593671619917905920)] h1 (rPo h1 A (some (.int 0)) (opWindows s (xs (i + 1).toNatClampNeg) (xs (i + 2).toNatClampNeg) (0) (xs (i + 4).toNatClampNeg) (FP.dmul (FP.i2d (xs (i + 5).toNatClampNeg)) 4593671619917905920))) := fun h1 e => lw_cast e (c_R_windows h1 A X s k kX ok (xs (i + 1).toNatClampNeg) (xs (i + 2).toNatClampNeg) (0) (xs (i + 4).toNatClampNeg) (FP.dmul (FP.i2d (xs (i + 5).toNatClampNeg)) 4593671619917905920) (law_ds (xs (i + 5).toNatClampNeg)))
  have ok2 := ok.windows (xs (i + 1).toNatClampNeg) (xs (i + 2).toNatClampNeg) (0) (xs (i + 4).toNatClampNeg) (FP.dmul (FP.i2d (xs (i + 5).toNatClampNeg)) 4593671619917905920)
  have hI : oInt (opWindows s (xs (i + 1).toNatClampNeg) (xs (i + 2).toNatClampNeg) (0) (xs (i + 4).toNatClampNeg) (FP.dmul (FP.i2d (xs (i + 5).toNatClampNeg)) 4593671619917905920)) 3 := oi_windows
  generalize (opWindows s (xs (i + 1).toNatClampNeg) (xs (i + 2).toNatClampNeg) (0) (xs (i + 4).toNatClampNeg) (FP.dmul (FP.i2d (xs (i + 5).toNatClampNeg)) 4593671619917905920)) = res at con1 con2 ok2 hI
  refine rk_aload_n dL_law_384 rfl ?_
  refine rk_aload_n dL_law_385 rfl ?_
  refine rk_iload dL_law_386 rfl ?_
  refine rk_iconst (v := 1) dL_law_388 (by decide) ?_
  refine rk_iadd dL_law_389 ?_
  refine rk_sald dL_law_390 (by first | exact K.2.2.2.2 | exact K1.2.2.2.2 | assumption) (hb 1 (by decide)) ?_
  refine rk_aload_n dL_law_391 rfl ?_
  refine rk_iload dL_law_392 rfl ?_
  refine rk_iconst (v := 2) dL_law_394 (by decide) ?_
  refine rk_iadd dL_law_395 ?_
  refine rk_sald dL_law_396 (by first | exact K.2.2.2.2 | exact K1.2.2.2.2 | assumption) (hb 2 (by decide)) ?_
  refine rk_aload_n dL_law_397 rfl ?_
  refine rk_iload dL_law_398 rfl ?_
  refine rk_iconst (v := 3) dL_law_400 (by decide) ?_
  refine rk_iadd dL_law_401 ?_
  refine rk_sald dL_law_402 (by first | exact K.2.2.2.2 | exact K1.2.2.2.2 | assumption) (hb 3 (by decide)) ?_
  refine rk_if_eq 410 dL_law_403 (by decide) (fun q_403 => ?_) (fun q_403 => (by exact absurd hz q_403))
  refine rk_iconst (v := 0) dL_law_410 (by decide) ?_
  refine rk_aload_n dL_law_411 rfl ?_
  refine rk_iload dL_law_412 rfl ?_
  refine rk_iconst (v := 4) dL_law_414 (by decide) ?_
  refine rk_iadd dL_law_415 ?_
  refine rk_sald dL_law_416 (by first | exact K.2.2.2.2 | exact K1.2.2.2.2 | assumption) (hb 4 (by decide)) ?_
  refine rk_aload_n dL_law_417 rfl ?_
  refine rk_iload dL_law_418 rfl ?_
  refine rk_iconst (v := 5) dL_law_420 (by decide) ?_
  refine rk_iadd dL_law_421 ?_
  refine rk_sald dL_law_422 (by first | exact K.2.2.2.2 | exact K1.2.2.2.2 | assumption) (hb 5 (by decide)) ?_
  refine rk_i2d dL_law_423 ?_
  refine rk_ldc2d qL_105 dL_law_424 ?_
  refine rk_dmul dL_law_427 (f_nan (f_law _)) ?_
  refine rk_aload_n dL_law_428 rfl ?_
  refine rk_csG (con1) cL_115 dL_law_429 rfl lL_windows (Nat.le_of_ble_eq_true rfl) (Nat.le_of_ble_eq_true rfl) hu.1 hu.2 ?_
  intro r1 h1 p1
  obtain ⟨rfl, C1, f1, K1, hE⟩ := K.callL p1
  refine rk_nxv ?_
  refine rk_istore dL_law_432 (Nat.le_of_ble_eq_true rfl) ?_
  refine rk_lv [some (.ref sb), some (.ref C.a), some (.ref (A 0)), some (.ref lo), some (.ref dq), some (.int i), some (.int (nI res.1)), none, none] ⟨rfl, rfl, rfl, rfl, rfl, rfl, rfl, trivial⟩ ?_
  refine rk_aload_n dL_law_434 rfl ?_
  refine rk_aload_n dL_law_435 rfl ?_
  refine rk_iload dL_law_436 rfl ?_
  refine rk_iconst (v := 1) dL_law_438 (by decide) ?_
  refine rk_iadd dL_law_439 ?_
  refine rk_sald dL_law_440 (by first | exact K.2.2.2.2 | exact K1.2.2.2.2 | assumption) (hb 1 (by decide)) ?_
  refine rk_aload_n dL_law_441 rfl ?_
  refine rk_iload dL_law_442 rfl ?_
  refine rk_iconst (v := 2) dL_law_444 (by decide) ?_
  refine rk_iadd dL_law_445 ?_
  refine rk_sald dL_law_446 (by first | exact K.2.2.2.2 | exact K1.2.2.2.2 | assumption) (hb 2 (by decide)) ?_
  refine rk_aload_n dL_law_447 rfl ?_
  refine rk_iload dL_law_448 rfl ?_
  refine rk_iconst (v := 3) dL_law_450 (by decide) ?_
  refine rk_iadd dL_law_451 ?_
  refine rk_sald dL_law_452 (by first | exact K.2.2.2.2 | exact K1.2.2.2.2 | assumption) (hb 3 (by decide)) ?_
  refine rk_if_eq 460 dL_law_453 (by decide) (fun q_453 => ?_) (fun q_453 => (by exact absurd hz q_453))
  refine rk_iconst (v := 0) dL_law_460 (by decide) ?_
  refine rk_aload_n dL_law_461 rfl ?_
  refine rk_iload dL_law_462 rfl ?_
  refine rk_iconst (v := 4) dL_law_464 (by decide) ?_
  refine rk_iadd dL_law_465 ?_
  refine rk_sald dL_law_466 (by first | exact K.2.2.2.2 | exact K1.2.2.2.2 | assumption) (hb 4 (by decide)) ?_
  refine rk_aload_n dL_law_467 rfl ?_
  refine rk_iload dL_law_468 rfl ?_
  refine rk_iconst (v := 5) dL_law_470 (by decide) ?_
  refine rk_iadd dL_law_471 ?_
  refine rk_sald dL_law_472 (by first | exact K.2.2.2.2 | exact K1.2.2.2.2 | assumption) (hb 5 (by decide)) ?_
  refine rk_i2d dL_law_473 ?_
  refine rk_ldc2d qL_105 dL_law_474 ?_
  refine rk_dmul dL_law_477 (f_nan (f_law _)) ?_
  refine rk_cvG (con2 h1 K1.1.2.2.1) cL_118 dL_law_478 rfl lR_windows (Nat.le_of_ble_eq_true rfl) (Nat.le_of_ble_eq_true rfl) hu.1 hu.2 ((congrFun K1.1.2.2.1 _).trans k.m) ?_
  intro r2 h2 p2
  obtain ⟨w, X2, rfl, rfl, e3, e4, K2⟩ := K1.refL hE hI (by decide) ok2 p2
  refine rk_nxv ?_
  refine rk_istore dL_law_481 (Nat.le_of_ble_eq_true rfl) ?_
  refine rk_lv [some (.ref sb), some (.ref C.a), some (.ref (A 0)), some (.ref lo), some (.ref dq), some (.int i), some (.int (nI res.1)), some (.int w), none] ⟨rfl, rfl, rfl, rfl, rfl, rfl, rfl, rfl, trivial⟩ ?_
  refine rk_aload_n dL_law_483 rfl ?_
  refine rk_cvV (c_R_thrown h1 A X2 k) cL_102 dL_law_484 rfl lR_thrown (Nat.le_of_ble_eq_true rfl) (Nat.le_of_ble_eq_true rfl) hu.1 hu.2 k.m ?_
  refine rk_iload dL_law_487 rfl ?_
  refine rk_icmp_eq 494 dL_law_489 (by decide) (fun q_489 => ?_) (fun q_489 => (by exact absurd e3 q_489))
  refine rk_iload dL_law_494 rfl ?_
  refine rk_if_ne 511 dL_law_496 (by decide) (fun q_496 => ?_) (fun q_496 => ?_)
  · refine rk_goto 1633 dL_law_511 (by decide) ?_
    refine rk_lv [some (.ref sb), some (.ref C.a), some (.ref (A 0)), some (.ref lo), some (.ref dq), some (.int i), none, none, none] ⟨rfl, rfl, rfl, rfl, rfl, rfl, trivial⟩ ?_
    exact nx _ ⟨_, _, _, _, _, _, K2⟩
  · refine rk_aload_n dL_law_499 rfl ?_
    refine rk_iconst (v := 0) dL_law_500 (by decide) ?_
    refine rk_lald dL_law_501 (by first | exact K2.1.2.2.1 | assumption) (by first | exact vp00 | assumption) ?_
    refine rk_iload dL_law_502 rfl ?_
    refine rk_i2l dL_law_504 ?_
    refine rk_lcmp dL_law_505 ?_
    refine rk_if_eq 511 dL_law_506 (by decide) (fun q_506 => ?_) (fun q_506 => (by exact absurd (lw_cmp (e4 q_496)) q_506))
    refine rk_goto 1633 dL_law_511 (by decide) ?_
    refine rk_lv [some (.ref sb), some (.ref C.a), some (.ref (A 0)), some (.ref lo), some (.ref dq), some (.int i), none, none, none] ⟨rfl, rfl, rfl, rfl, rfl, rfl, trivial⟩ ?_
    exact nx _ ⟨_, _, _, _, _, _, K2⟩
theorem lw_windowsn {A : Nat → Nat} {lo dq sb L ca : Nat} {xs : Nat → Int32} {b h : rk_H} {C : cT} {X : rX} {s : aS} {f : Nat → Int64} {g : Nat → UInt64} (K : lwK A lo dq sb L ca xs b h C X s f g) (i : Int32) (hb : ∀ j : Nat, j < 6 → vp_in (i + nI j) L) {u1 u2 : Nat} (hu : u1 + 9 ≤ 601024 ∧ u2 + 186 ≤ 7293034) (hz : ¬ xs (i + 3).toNatClampNeg = 0) (nx : ∀ h1 : rk_H, lwAt A lo dq sb L ca xs h1 → rk_Run mL_law lwB lwP 1633 (lwV A lo dq sb ca i) [] h1 (u1 + 9, u2 + 186)) : rk_Run mL_law lwB lwP 384 (lwV A lo dq sb ca i) [] h (u1, u2) := by
  obtain ⟨K, ok, kX⟩ := K
  obtain rfl := K.1.1
  have k := K.1.2.1
  have con1 := lk_windows C s.n h K.2.1.1.1.1 (opWindows s (xs (i + 1).toNatClampNeg) (xs (i + 2).toNatClampNeg) (1) (xs (i + 4).toNatClampNeg) (FP.dmul (FP.i2d (xs (i + 5).toNatClampNeg)) 4593671619917905920)) oi_windows (xs (i + 1).toNatClampNeg) (xs (i + 2).toNatClampNeg) (1) (xs (i + 4).toNatClampNeg) (FP.dmul (FP.i2d (xs (i + 5).toNatClampNeg)) 4593671619917905920) (c_T_windows C s (xs (i + 1).toNatClampNeg) (xs (i + 2).toNatClampNeg) (1) (xs (i + 4).toNatClampNeg) (FP.dmul (FP.i2d (xs (i + 5).toNatClampNeg)) 4593671619917905920) h K.2.1.1 ok) lo f K.2.2.1 (fun q => (K.2.1.2 _ q).2.1 rfl)
  have con2 : ∀ h1 : rk_H, h1 = rv h1 A X → rk_Con mR_windows (2, 33, 0, 0) [.ref (A 0), .int (xs (i + 1).toNatClampNeg), .int (xs (i + 2).toNatClampNeg), .int (1), .int (xs (i + 4).toNatClampNeg), .double (FP.dmul (FP.i2d (xs (i + 5).toNatClampNeg)) 4593671619917905920)] h1 (rPo h1 A (some (.int 0)) (opWindows s (xs (i + 1).toNatClampNeg) (xs (i + 2).toNatClampNeg) (1) (xs (i + 4).toNatClampNeg) (FP.dmul (FP.i2d (xs (i + 5).toNatClampNeg)) 4593671619917905920))) := fun h1 e => lw_cast e (c_R_windows h1 A X s k kX ok (xs (i + 1).toNatClampNeg) (xs (i + 2).toNatClampNeg) (1) (xs (i + 4).toNatClampNeg) (FP.dmul (FP.i2d (xs (i + 5).toNatClampNeg)) 4593671619917905920) (law_ds (xs (i + 5).toNatClampNeg)))
  have ok2 := ok.windows (xs (i + 1).toNatClampNeg) (xs (i + 2).toNatClampNeg) (1) (xs (i + 4).toNatClampNeg) (FP.dmul (FP.i2d (xs (i + 5).toNatClampNeg)) 4593671619917905920)
  have hI : oInt (opWindows s (xs (i + 1).toNatClampNeg) (xs (i + 2).toNatClampNeg) (1) (xs (i + 4).toNatClampNeg) (FP.dmul (FP.i2d (xs (i + 5).toNatClampNeg)) 4593671619917905920)) 3 := oi_windows
  generalize (opWindows s (xs (i + 1).toNatClampNeg) (xs (i + 2).toNatClampNeg) (1) (xs (i + 4).toNatClampNeg) (FP.dmul (FP.i2d (xs (i + 5).toNatClampNeg)) 4593671619917905920)) = res at con1 con2 ok2 hI
  refine rk_aload_n dL_law_384 rfl ?_
  refine rk_aload_n dL_law_385 rfl ?_
  refine rk_iload dL_law_386 rfl ?_
  refine rk_iconst (v := 1) dL_law_388 (by decide) ?_
  refine rk_iadd dL_law_389 ?_
  refine rk_sald dL_law_390 (by first | exact K.2.2.2.2 | exact K1.2.2.2.2 | assumption) (hb 1 (by decide)) ?_
  refine rk_aload_n dL_law_391 rfl ?_
  refine rk_iload dL_law_392 rfl ?_
  refine rk_iconst (v := 2) dL_law_394 (by decide) ?_
  refine rk_iadd dL_law_395 ?_
  refine rk_sald dL_law_396 (by first | exact K.2.2.2.2 | exact K1.2.2.2.2 | assumption) (hb 2 (by decide)) ?_
  refine rk_aload_n dL_law_397 rfl ?_
  refine rk_iload dL_law_398 rfl ?_
  refine rk_iconst (v := 3) dL_law_400 (by decide) ?_
  refine rk_iadd dL_law_401 ?_
  refine rk_sald dL_law_402 (by first | exact K.2.2.2.2 | exact K1.2.2.2.2 | assumption) (hb 3 (by decide)) ?_
  refine rk_if_eq 410 dL_law_403 (by decide) (fun q_403 => (by exact absurd q_403 hz)) (fun q_403 => ?_)
  refine rk_iconst (v := 1) dL_law_406 (by decide) ?_
  refine rk_goto 411 dL_law_407 (by decide) ?_
  refine rk_aload_n dL_law_411 rfl ?_
  refine rk_iload dL_law_412 rfl ?_
  refine rk_iconst (v := 4) dL_law_414 (by decide) ?_
  refine rk_iadd dL_law_415 ?_
  refine rk_sald dL_law_416 (by first | exact K.2.2.2.2 | exact K1.2.2.2.2 | assumption) (hb 4 (by decide)) ?_
  refine rk_aload_n dL_law_417 rfl ?_
  refine rk_iload dL_law_418 rfl ?_
  refine rk_iconst (v := 5) dL_law_420 (by decide) ?_
  refine rk_iadd dL_law_421 ?_
  refine rk_sald dL_law_422 (by first | exact K.2.2.2.2 | exact K1.2.2.2.2 | assumption) (hb 5 (by decide)) ?_
  refine rk_i2d dL_law_423 ?_
  refine rk_ldc2d qL_105 dL_law_424 ?_
  refine rk_dmul dL_law_427 (f_nan (f_law _)) ?_
  refine rk_aload_n dL_law_428 rfl ?_
  refine rk_csG (con1) cL_115 dL_law_429 rfl lL_windows (Nat.le_of_ble_eq_true rfl) (Nat.le_of_ble_eq_true rfl) hu.1 hu.2 ?_
  intro r1 h1 p1
  obtain ⟨rfl, C1, f1, K1, hE⟩ := K.callL p1
  refine rk_nxv ?_
  refine rk_istore dL_law_432 (Nat.le_of_ble_eq_true rfl) ?_
  refine rk_lv [some (.ref sb), some (.ref C.a), some (.ref (A 0)), some (.ref lo), some (.ref dq), some (.int i), some (.int (nI res.1)), none, none] ⟨rfl, rfl, rfl, rfl, rfl, rfl, rfl, trivial⟩ ?_
  refine rk_aload_n dL_law_434 rfl ?_
  refine rk_aload_n dL_law_435 rfl ?_
  refine rk_iload dL_law_436 rfl ?_
  refine rk_iconst (v := 1) dL_law_438 (by decide) ?_
  refine rk_iadd dL_law_439 ?_
  refine rk_sald dL_law_440 (by first | exact K.2.2.2.2 | exact K1.2.2.2.2 | assumption) (hb 1 (by decide)) ?_
  refine rk_aload_n dL_law_441 rfl ?_
  refine rk_iload dL_law_442 rfl ?_
  refine rk_iconst (v := 2) dL_law_444 (by decide) ?_
  refine rk_iadd dL_law_445 ?_
  refine rk_sald dL_law_446 (by first | exact K.2.2.2.2 | exact K1.2.2.2.2 | assumption) (hb 2 (by decide)) ?_
  refine rk_aload_n dL_law_447 rfl ?_
  refine rk_iload dL_law_448 rfl ?_
  refine rk_iconst (v := 3) dL_law_450 (by decide) ?_
  refine rk_iadd dL_law_451 ?_
  refine rk_sald dL_law_452 (by first | exact K.2.2.2.2 | exact K1.2.2.2.2 | assumption) (hb 3 (by decide)) ?_
  refine rk_if_eq 460 dL_law_453 (by decide) (fun q_453 => (by exact absurd q_453 hz)) (fun q_453 => ?_)
  refine rk_iconst (v := 1) dL_law_456 (by decide) ?_
  refine rk_goto 461 dL_law_457 (by decide) ?_
  refine rk_aload_n dL_law_461 rfl ?_
  refine rk_iload dL_law_462 rfl ?_
  refine rk_iconst (v := 4) dL_law_464 (by decide) ?_
  refine rk_iadd dL_law_465 ?_
  refine rk_sald dL_law_466 (by first | exact K.2.2.2.2 | exact K1.2.2.2.2 | assumption) (hb 4 (by decide)) ?_
  refine rk_aload_n dL_law_467 rfl ?_
  refine rk_iload dL_law_468 rfl ?_
  refine rk_iconst (v := 5) dL_law_470 (by decide) ?_
  refine rk_iadd dL_law_471 ?_
  refine rk_sald dL_law_472 (by first | exact K.2.2.2.2 | exact K1.2.2.2.2 | assumption) (hb 5 (by decide)) ?_
  refine rk_i2d dL_law_473 ?_
  refine rk_ldc2d qL_105 dL_law_474 ?_
  refine rk_dmul dL_law_477 (f_nan (f_law _)) ?_
  refine rk_cvG (con2 h1 K1.1.2.2.1) cL_118 dL_law_478 rfl lR_windows (Nat.le_of_ble_eq_true rfl) (Nat.le_of_ble_eq_true rfl) hu.1 hu.2 ((congrFun K1.1.2.2.1 _).trans k.m) ?_
  intro r2 h2 p2
  obtain ⟨w, X2, rfl, rfl, e3, e4, K2⟩ := K1.refL hE hI (by decide) ok2 p2
  refine rk_nxv ?_
  refine rk_istore dL_law_481 (Nat.le_of_ble_eq_true rfl) ?_
  refine rk_lv [some (.ref sb), some (.ref C.a), some (.ref (A 0)), some (.ref lo), some (.ref dq), some (.int i), some (.int (nI res.1)), some (.int w), none] ⟨rfl, rfl, rfl, rfl, rfl, rfl, rfl, rfl, trivial⟩ ?_
  refine rk_aload_n dL_law_483 rfl ?_
  refine rk_cvV (c_R_thrown h1 A X2 k) cL_102 dL_law_484 rfl lR_thrown (Nat.le_of_ble_eq_true rfl) (Nat.le_of_ble_eq_true rfl) hu.1 hu.2 k.m ?_
  refine rk_iload dL_law_487 rfl ?_
  refine rk_icmp_eq 494 dL_law_489 (by decide) (fun q_489 => ?_) (fun q_489 => (by exact absurd e3 q_489))
  refine rk_iload dL_law_494 rfl ?_
  refine rk_if_ne 511 dL_law_496 (by decide) (fun q_496 => ?_) (fun q_496 => ?_)
  · refine rk_goto 1633 dL_law_511 (by decide) ?_
    refine rk_lv [some (.ref sb), some (.ref C.a), some (.ref (A 0)), some (.ref lo), some (.ref dq), some (.int i), none, none, none] ⟨rfl, rfl, rfl, rfl, rfl, rfl, trivial⟩ ?_
    exact nx _ ⟨_, _, _, _, _, _, K2⟩
  · refine rk_aload_n dL_law_499 rfl ?_
    refine rk_iconst (v := 0) dL_law_500 (by decide) ?_
    refine rk_lald dL_law_501 (by first | exact K2.1.2.2.1 | assumption) (by first | exact vp00 | assumption) ?_
    refine rk_iload dL_law_502 rfl ?_
    refine rk_i2l dL_law_504 ?_
    refine rk_lcmp dL_law_505 ?_
    refine rk_if_eq 511 dL_law_506 (by decide) (fun q_506 => ?_) (fun q_506 => (by exact absurd (lw_cmp (e4 q_496)) q_506))
    refine rk_goto 1633 dL_law_511 (by decide) ?_
    refine rk_lv [some (.ref sb), some (.ref C.a), some (.ref (A 0)), some (.ref lo), some (.ref dq), some (.int i), none, none, none] ⟨rfl, rfl, rfl, rfl, rfl, rfl, trivial⟩ ?_
    exact nx _ ⟨_, _, _, _, _, _, K2⟩
theorem lw_dense {A : Nat → Nat} {lo dq sb L ca : Nat} {xs : Nat → Int32} {b h : rk_H} {C : cT} {X : rX} {s : aS} {f : Nat → Int64} {g : Nat → UInt64} (K : lwK A lo dq sb L ca xs b h C X s f g) (i : Int32) (hb : ∀ j : Nat, j < 6 → vp_in (i + nI j) L) {u1 u2 : Nat} (hu : u1 + 9 ≤ 601024 ∧ u2 + 186 ≤ 7293034) (nx : ∀ h1 : rk_H, lwAt A lo dq sb L ca xs h1 → rk_Run mL_law lwB lwP 1633 (lwV A lo dq sb ca i) [] h1 (u1 + 9, u2 + 186)) : rk_Run mL_law lwB lwP 514 (lwV A lo dq sb ca i) [] h (u1, u2) := by
  obtain ⟨K, ok, kX⟩ := K
  obtain rfl := K.1.1
  have k := K.1.2.1
  have con1 := lk_dense C s.n h K.2.1.1.1.1 (opDense s (xs (i + 1).toNatClampNeg) (xs (i + 2).toNatClampNeg) (xs (i + 3).toNatClampNeg) (FP.dmul (FP.i2d (xs (i + 4).toNatClampNeg)) 4593671619917905920)) oi_dense (xs (i + 1).toNatClampNeg) (xs (i + 2).toNatClampNeg) (xs (i + 3).toNatClampNeg) (FP.dmul (FP.i2d (xs (i + 4).toNatClampNeg)) 4593671619917905920) (c_T_dense C s (xs (i + 1).toNatClampNeg) (xs (i + 2).toNatClampNeg) (xs (i + 3).toNatClampNeg) (FP.dmul (FP.i2d (xs (i + 4).toNatClampNeg)) 4593671619917905920) h K.2.1.1 ok) lo f K.2.2.1 (fun q => (K.2.1.2 _ q).2.1 rfl)
  have con2 : ∀ h1 : rk_H, h1 = rv h1 A X → rk_Con mR_dense (1, 21, 0, 0) [.ref (A 0), .int (xs (i + 1).toNatClampNeg), .int (xs (i + 2).toNatClampNeg), .int (xs (i + 3).toNatClampNeg), .double (FP.dmul (FP.i2d (xs (i + 4).toNatClampNeg)) 4593671619917905920)] h1 (rPo h1 A (some (.int 0)) (opDense s (xs (i + 1).toNatClampNeg) (xs (i + 2).toNatClampNeg) (xs (i + 3).toNatClampNeg) (FP.dmul (FP.i2d (xs (i + 4).toNatClampNeg)) 4593671619917905920))) := fun h1 e => lw_cast e (c_R_dense h1 A X s k kX ok (xs (i + 1).toNatClampNeg) (xs (i + 2).toNatClampNeg) (xs (i + 3).toNatClampNeg) (FP.dmul (FP.i2d (xs (i + 4).toNatClampNeg)) 4593671619917905920) (law_ds (xs (i + 4).toNatClampNeg)))
  have ok2 := ok.dense (xs (i + 1).toNatClampNeg) (xs (i + 2).toNatClampNeg) (xs (i + 3).toNatClampNeg) (FP.dmul (FP.i2d (xs (i + 4).toNatClampNeg)) 4593671619917905920)
  have hI : oInt (opDense s (xs (i + 1).toNatClampNeg) (xs (i + 2).toNatClampNeg) (xs (i + 3).toNatClampNeg) (FP.dmul (FP.i2d (xs (i + 4).toNatClampNeg)) 4593671619917905920)) 3 := oi_dense
  generalize (opDense s (xs (i + 1).toNatClampNeg) (xs (i + 2).toNatClampNeg) (xs (i + 3).toNatClampNeg) (FP.dmul (FP.i2d (xs (i + 4).toNatClampNeg)) 4593671619917905920)) = res at con1 con2 ok2 hI
  refine rk_aload_n dL_law_514 rfl ?_
  refine rk_aload_n dL_law_515 rfl ?_
  refine rk_iload dL_law_516 rfl ?_
  refine rk_iconst (v := 1) dL_law_518 (by decide) ?_
  refine rk_iadd dL_law_519 ?_
  refine rk_sald dL_law_520 (by first | exact K.2.2.2.2 | exact K1.2.2.2.2 | assumption) (hb 1 (by decide)) ?_
  refine rk_aload_n dL_law_521 rfl ?_
  refine rk_iload dL_law_522 rfl ?_
  refine rk_iconst (v := 2) dL_law_524 (by decide) ?_
  refine rk_iadd dL_law_525 ?_
  refine rk_sald dL_law_526 (by first | exact K.2.2.2.2 | exact K1.2.2.2.2 | assumption) (hb 2 (by decide)) ?_
  refine rk_aload_n dL_law_527 rfl ?_
  refine rk_iload dL_law_528 rfl ?_
  refine rk_iconst (v := 3) dL_law_530 (by decide) ?_
  refine rk_iadd dL_law_531 ?_
  refine rk_sald dL_law_532 (by first | exact K.2.2.2.2 | exact K1.2.2.2.2 | assumption) (hb 3 (by decide)) ?_
  refine rk_aload_n dL_law_533 rfl ?_
  refine rk_iload dL_law_534 rfl ?_
  refine rk_iconst (v := 4) dL_law_536 (by decide) ?_
  refine rk_iadd dL_law_537 ?_
  refine rk_sald dL_law_538 (by first | exact K.2.2.2.2 | exact K1.2.2.2.2 | assumption) (hb 4 (by decide)) ?_
  refine rk_i2d dL_law_539 ?_
  refine rk_ldc2d qL_105 dL_law_540 ?_
  refine rk_dmul dL_law_543 (f_nan (f_law _)) ?_
  refine rk_aload_n dL_law_544 rfl ?_
  refine rk_csG (con1) cL_119 dL_law_545 rfl lL_dense (Nat.le_of_ble_eq_true rfl) (Nat.le_of_ble_eq_true rfl) hu.1 hu.2 ?_
  intro r1 h1 p1
  obtain ⟨rfl, C1, f1, K1, hE⟩ := K.callL p1
  refine rk_nxv ?_
  refine rk_istore dL_law_548 (Nat.le_of_ble_eq_true rfl) ?_
  refine rk_lv [some (.ref sb), some (.ref C.a), some (.ref (A 0)), some (.ref lo), some (.ref dq), some (.int i), some (.int (nI res.1)), none, none] ⟨rfl, rfl, rfl, rfl, rfl, rfl, rfl, trivial⟩ ?_
  refine rk_aload_n dL_law_550 rfl ?_
  refine rk_aload_n dL_law_551 rfl ?_
  refine rk_iload dL_law_552 rfl ?_
  refine rk_iconst (v := 1) dL_law_554 (by decide) ?_
  refine rk_iadd dL_law_555 ?_
  refine rk_sald dL_law_556 (by first | exact K.2.2.2.2 | exact K1.2.2.2.2 | assumption) (hb 1 (by decide)) ?_
  refine rk_aload_n dL_law_557 rfl ?_
  refine rk_iload dL_law_558 rfl ?_
  refine rk_iconst (v := 2) dL_law_560 (by decide) ?_
  refine rk_iadd dL_law_561 ?_
  refine rk_sald dL_law_562 (by first | exact K.2.2.2.2 | exact K1.2.2.2.2 | assumption) (hb 2 (by decide)) ?_
  refine rk_aload_n dL_law_563 rfl ?_
  refine rk_iload dL_law_564 rfl ?_
  refine rk_iconst (v := 3) dL_law_566 (by decide) ?_
  refine rk_iadd dL_law_567 ?_
  refine rk_sald dL_law_568 (by first | exact K.2.2.2.2 | exact K1.2.2.2.2 | assumption) (hb 3 (by decide)) ?_
  refine rk_aload_n dL_law_569 rfl ?_
  refine rk_iload dL_law_570 rfl ?_
  refine rk_iconst (v := 4) dL_law_572 (by decide) ?_
  refine rk_iadd dL_law_573 ?_
  refine rk_sald dL_law_574 (by first | exact K.2.2.2.2 | exact K1.2.2.2.2 | assumption) (hb 4 (by decide)) ?_
  refine rk_i2d dL_law_575 ?_
  refine rk_ldc2d qL_105 dL_law_576 ?_
  refine rk_dmul dL_law_579 (f_nan (f_law _)) ?_
  refine rk_cvG (con2 h1 K1.1.2.2.1) cL_121 dL_law_580 rfl lR_dense (Nat.le_of_ble_eq_true rfl) (Nat.le_of_ble_eq_true rfl) hu.1 hu.2 ((congrFun K1.1.2.2.1 _).trans k.m) ?_
  intro r2 h2 p2
  obtain ⟨w, X2, rfl, rfl, e3, e4, K2⟩ := K1.refL hE hI (by decide) ok2 p2
  refine rk_nxv ?_
  refine rk_istore dL_law_583 (Nat.le_of_ble_eq_true rfl) ?_
  refine rk_lv [some (.ref sb), some (.ref C.a), some (.ref (A 0)), some (.ref lo), some (.ref dq), some (.int i), some (.int (nI res.1)), some (.int w), none] ⟨rfl, rfl, rfl, rfl, rfl, rfl, rfl, rfl, trivial⟩ ?_
  refine rk_aload_n dL_law_585 rfl ?_
  refine rk_cvV (c_R_thrown h1 A X2 k) cL_102 dL_law_586 rfl lR_thrown (Nat.le_of_ble_eq_true rfl) (Nat.le_of_ble_eq_true rfl) hu.1 hu.2 k.m ?_
  refine rk_iload dL_law_589 rfl ?_
  refine rk_icmp_eq 596 dL_law_591 (by decide) (fun q_591 => ?_) (fun q_591 => (by exact absurd e3 q_591))
  refine rk_iload dL_law_596 rfl ?_
  refine rk_if_ne 613 dL_law_598 (by decide) (fun q_598 => ?_) (fun q_598 => ?_)
  · refine rk_goto 1633 dL_law_613 (by decide) ?_
    refine rk_lv [some (.ref sb), some (.ref C.a), some (.ref (A 0)), some (.ref lo), some (.ref dq), some (.int i), none, none, none] ⟨rfl, rfl, rfl, rfl, rfl, rfl, trivial⟩ ?_
    exact nx _ ⟨_, _, _, _, _, _, K2⟩
  · refine rk_aload_n dL_law_601 rfl ?_
    refine rk_iconst (v := 0) dL_law_602 (by decide) ?_
    refine rk_lald dL_law_603 (by first | exact K2.1.2.2.1 | assumption) (by first | exact vp00 | assumption) ?_
    refine rk_iload dL_law_604 rfl ?_
    refine rk_i2l dL_law_606 ?_
    refine rk_lcmp dL_law_607 ?_
    refine rk_if_eq 613 dL_law_608 (by decide) (fun q_608 => ?_) (fun q_608 => (by exact absurd (lw_cmp (e4 q_598)) q_608))
    refine rk_goto 1633 dL_law_613 (by decide) ?_
    refine rk_lv [some (.ref sb), some (.ref C.a), some (.ref (A 0)), some (.ref lo), some (.ref dq), some (.int i), none, none, none] ⟨rfl, rfl, rfl, rfl, rfl, rfl, trivial⟩ ?_
    exact nx _ ⟨_, _, _, _, _, _, K2⟩
theorem lw_add {A : Nat → Nat} {lo dq sb L ca : Nat} {xs : Nat → Int32} {b h : rk_H} {C : cT} {X : rX} {s : aS} {f : Nat → Int64} {g : Nat → UInt64} (K : lwK A lo dq sb L ca xs b h C X s f g) (i : Int32) (hb : ∀ j : Nat, j < 6 → vp_in (i + nI j) L) {u1 u2 : Nat} (hu : u1 + 9 ≤ 601024 ∧ u2 + 186 ≤ 7293034) (nx : ∀ h1 : rk_H, lwAt A lo dq sb L ca xs h1 → rk_Run mL_law lwB lwP 1633 (lwV A lo dq sb ca i) [] h1 (u1 + 9, u2 + 186)) : rk_Run mL_law lwB lwP 616 (lwV A lo dq sb ca i) [] h (u1, u2) := by
  obtain ⟨K, ok, kX⟩ := K
  obtain rfl := K.1.1
  have k := K.1.2.1
  have con1 := lk_add C s.n h K.2.1.1.1.1 (opAdd s (xs (i + 1).toNatClampNeg) (xs (i + 2).toNatClampNeg) (FP.dmul (FP.i2d (xs (i + 3).toNatClampNeg)) 4593671619917905920)) oi_add (xs (i + 1).toNatClampNeg) (xs (i + 2).toNatClampNeg) (FP.dmul (FP.i2d (xs (i + 3).toNatClampNeg)) 4593671619917905920) (c_T_add C s (xs (i + 1).toNatClampNeg) (xs (i + 2).toNatClampNeg) (FP.dmul (FP.i2d (xs (i + 3).toNatClampNeg)) 4593671619917905920) h K.2.1.1 ok) lo f K.2.2.1 (fun q => (K.2.1.2 _ q).2.1 rfl)
  have con2 : ∀ h1 : rk_H, h1 = rv h1 A X → rk_Con mR_add (1, 21, 0, 0) [.ref (A 0), .int (xs (i + 1).toNatClampNeg), .int (xs (i + 2).toNatClampNeg), .double (FP.dmul (FP.i2d (xs (i + 3).toNatClampNeg)) 4593671619917905920)] h1 (rPo h1 A (some (.int 0)) (opAdd s (xs (i + 1).toNatClampNeg) (xs (i + 2).toNatClampNeg) (FP.dmul (FP.i2d (xs (i + 3).toNatClampNeg)) 4593671619917905920))) := fun h1 e => lw_cast e (c_R_add h1 A X s k kX ok (xs (i + 1).toNatClampNeg) (xs (i + 2).toNatClampNeg) (FP.dmul (FP.i2d (xs (i + 3).toNatClampNeg)) 4593671619917905920) (law_ds (xs (i + 3).toNatClampNeg)))
  have ok2 := ok.add (xs (i + 1).toNatClampNeg) (xs (i + 2).toNatClampNeg) (FP.dmul (FP.i2d (xs (i + 3).toNatClampNeg)) 4593671619917905920)
  have hI : oInt (opAdd s (xs (i + 1).toNatClampNeg) (xs (i + 2).toNatClampNeg) (FP.dmul (FP.i2d (xs (i + 3).toNatClampNeg)) 4593671619917905920)) 3 := oi_add
  generalize (opAdd s (xs (i + 1).toNatClampNeg) (xs (i + 2).toNatClampNeg) (FP.dmul (FP.i2d (xs (i + 3).toNatClampNeg)) 4593671619917905920)) = res at con1 con2 ok2 hI
  refine rk_aload_n dL_law_616 rfl ?_
  refine rk_aload_n dL_law_617 rfl ?_
  refine rk_iload dL_law_618 rfl ?_
  refine rk_iconst (v := 1) dL_law_620 (by decide) ?_
  refine rk_iadd dL_law_621 ?_
  refine rk_sald dL_law_622 (by first | exact K.2.2.2.2 | exact K1.2.2.2.2 | assumption) (hb 1 (by decide)) ?_
  refine rk_aload_n dL_law_623 rfl ?_
  refine rk_iload dL_law_624 rfl ?_
  refine rk_iconst (v := 2) dL_law_626 (by decide) ?_
  refine rk_iadd dL_law_627 ?_
  refine rk_sald dL_law_628 (by first | exact K.2.2.2.2 | exact K1.2.2.2.2 | assumption) (hb 2 (by decide)) ?_
  refine rk_aload_n dL_law_629 rfl ?_
  refine rk_iload dL_law_630 rfl ?_
  refine rk_iconst (v := 3) dL_law_632 (by decide) ?_
  refine rk_iadd dL_law_633 ?_
  refine rk_sald dL_law_634 (by first | exact K.2.2.2.2 | exact K1.2.2.2.2 | assumption) (hb 3 (by decide)) ?_
  refine rk_i2d dL_law_635 ?_
  refine rk_ldc2d qL_105 dL_law_636 ?_
  refine rk_dmul dL_law_639 (f_nan (f_law _)) ?_
  refine rk_aload_n dL_law_640 rfl ?_
  refine rk_csG (con1) cL_122 dL_law_641 rfl lL_add (Nat.le_of_ble_eq_true rfl) (Nat.le_of_ble_eq_true rfl) hu.1 hu.2 ?_
  intro r1 h1 p1
  obtain ⟨rfl, C1, f1, K1, hE⟩ := K.callL p1
  refine rk_nxv ?_
  refine rk_istore dL_law_644 (Nat.le_of_ble_eq_true rfl) ?_
  refine rk_lv [some (.ref sb), some (.ref C.a), some (.ref (A 0)), some (.ref lo), some (.ref dq), some (.int i), some (.int (nI res.1)), none, none] ⟨rfl, rfl, rfl, rfl, rfl, rfl, rfl, trivial⟩ ?_
  refine rk_aload_n dL_law_646 rfl ?_
  refine rk_aload_n dL_law_647 rfl ?_
  refine rk_iload dL_law_648 rfl ?_
  refine rk_iconst (v := 1) dL_law_650 (by decide) ?_
  refine rk_iadd dL_law_651 ?_
  refine rk_sald dL_law_652 (by first | exact K.2.2.2.2 | exact K1.2.2.2.2 | assumption) (hb 1 (by decide)) ?_
  refine rk_aload_n dL_law_653 rfl ?_
  refine rk_iload dL_law_654 rfl ?_
  refine rk_iconst (v := 2) dL_law_656 (by decide) ?_
  refine rk_iadd dL_law_657 ?_
  refine rk_sald dL_law_658 (by first | exact K.2.2.2.2 | exact K1.2.2.2.2 | assumption) (hb 2 (by decide)) ?_
  refine rk_aload_n dL_law_659 rfl ?_
  refine rk_iload dL_law_660 rfl ?_
  refine rk_iconst (v := 3) dL_law_662 (by decide) ?_
  refine rk_iadd dL_law_663 ?_
  refine rk_sald dL_law_664 (by first | exact K.2.2.2.2 | exact K1.2.2.2.2 | assumption) (hb 3 (by decide)) ?_
  refine rk_i2d dL_law_665 ?_
  refine rk_ldc2d qL_105 dL_law_666 ?_
  refine rk_dmul dL_law_669 (f_nan (f_law _)) ?_
  refine rk_cvG (con2 h1 K1.1.2.2.1) cL_125 dL_law_670 rfl lR_add (Nat.le_of_ble_eq_true rfl) (Nat.le_of_ble_eq_true rfl) hu.1 hu.2 ((congrFun K1.1.2.2.1 _).trans k.m) ?_
  intro r2 h2 p2
  obtain ⟨w, X2, rfl, rfl, e3, e4, K2⟩ := K1.refL hE hI (by decide) ok2 p2
  refine rk_nxv ?_
  refine rk_istore dL_law_673 (Nat.le_of_ble_eq_true rfl) ?_
  refine rk_lv [some (.ref sb), some (.ref C.a), some (.ref (A 0)), some (.ref lo), some (.ref dq), some (.int i), some (.int (nI res.1)), some (.int w), none] ⟨rfl, rfl, rfl, rfl, rfl, rfl, rfl, rfl, trivial⟩ ?_
  refine rk_aload_n dL_law_675 rfl ?_
  refine rk_cvV (c_R_thrown h1 A X2 k) cL_102 dL_law_676 rfl lR_thrown (Nat.le_of_ble_eq_true rfl) (Nat.le_of_ble_eq_true rfl) hu.1 hu.2 k.m ?_
  refine rk_iload dL_law_679 rfl ?_
  refine rk_icmp_eq 686 dL_law_681 (by decide) (fun q_681 => ?_) (fun q_681 => (by exact absurd e3 q_681))
  refine rk_iload dL_law_686 rfl ?_
  refine rk_if_ne 703 dL_law_688 (by decide) (fun q_688 => ?_) (fun q_688 => ?_)
  · refine rk_goto 1633 dL_law_703 (by decide) ?_
    refine rk_lv [some (.ref sb), some (.ref C.a), some (.ref (A 0)), some (.ref lo), some (.ref dq), some (.int i), none, none, none] ⟨rfl, rfl, rfl, rfl, rfl, rfl, trivial⟩ ?_
    exact nx _ ⟨_, _, _, _, _, _, K2⟩
  · refine rk_aload_n dL_law_691 rfl ?_
    refine rk_iconst (v := 0) dL_law_692 (by decide) ?_
    refine rk_lald dL_law_693 (by first | exact K2.1.2.2.1 | assumption) (by first | exact vp00 | assumption) ?_
    refine rk_iload dL_law_694 rfl ?_
    refine rk_i2l dL_law_696 ?_
    refine rk_lcmp dL_law_697 ?_
    refine rk_if_eq 703 dL_law_698 (by decide) (fun q_698 => ?_) (fun q_698 => (by exact absurd (lw_cmp (e4 q_688)) q_698))
    refine rk_goto 1633 dL_law_703 (by decide) ?_
    refine rk_lv [some (.ref sb), some (.ref C.a), some (.ref (A 0)), some (.ref lo), some (.ref dq), some (.int i), none, none, none] ⟨rfl, rfl, rfl, rfl, rfl, rfl, trivial⟩ ?_
    exact nx _ ⟨_, _, _, _, _, _, K2⟩
theorem lw_concat {A : Nat → Nat} {lo dq sb L ca : Nat} {xs : Nat → Int32} {b h : rk_H} {C : cT} {X : rX} {s : aS} {f : Nat → Int64} {g : Nat → UInt64} (K : lwK A lo dq sb L ca xs b h C X s f g) (i : Int32) (hb : ∀ j : Nat, j < 6 → vp_in (i + nI j) L) {u1 u2 : Nat} (hu : u1 + 9 ≤ 601024 ∧ u2 + 186 ≤ 7293034) (nx : ∀ h1 : rk_H, lwAt A lo dq sb L ca xs h1 → rk_Run mL_law lwB lwP 1633 (lwV A lo dq sb ca i) [] h1 (u1 + 9, u2 + 186)) : rk_Run mL_law lwB lwP 706 (lwV A lo dq sb ca i) [] h (u1, u2) := by
  obtain ⟨K, ok, kX⟩ := K
  obtain rfl := K.1.1
  have k := K.1.2.1
  have con1 := lk_concat C s.n h K.2.1.1.1.1 (opConcat s (xs (i + 1).toNatClampNeg) (xs (i + 2).toNatClampNeg)) oi_concat (xs (i + 1).toNatClampNeg) (xs (i + 2).toNatClampNeg) (c_T_concat C s (xs (i + 1).toNatClampNeg) (xs (i + 2).toNatClampNeg) h K.2.1.1 ok) lo f K.2.2.1 (fun q => (K.2.1.2 _ q).2.1 rfl)
  have con2 : ∀ h1 : rk_H, h1 = rv h1 A X → rk_Con mR_concat (1, 21, 0, 0) [.ref (A 0), .int (xs (i + 1).toNatClampNeg), .int (xs (i + 2).toNatClampNeg)] h1 (rPo h1 A (some (.int 0)) (opConcat s (xs (i + 1).toNatClampNeg) (xs (i + 2).toNatClampNeg))) := fun h1 e => lw_cast e (c_R_concat h1 A X s k kX ok (xs (i + 1).toNatClampNeg) (xs (i + 2).toNatClampNeg))
  have ok2 := ok.concat (xs (i + 1).toNatClampNeg) (xs (i + 2).toNatClampNeg)
  have hI : oInt (opConcat s (xs (i + 1).toNatClampNeg) (xs (i + 2).toNatClampNeg)) 2 := oi_concat
  generalize (opConcat s (xs (i + 1).toNatClampNeg) (xs (i + 2).toNatClampNeg)) = res at con1 con2 ok2 hI
  refine rk_aload_n dL_law_706 rfl ?_
  refine rk_aload_n dL_law_707 rfl ?_
  refine rk_iload dL_law_708 rfl ?_
  refine rk_iconst (v := 1) dL_law_710 (by decide) ?_
  refine rk_iadd dL_law_711 ?_
  refine rk_sald dL_law_712 (by first | exact K.2.2.2.2 | exact K1.2.2.2.2 | assumption) (hb 1 (by decide)) ?_
  refine rk_aload_n dL_law_713 rfl ?_
  refine rk_iload dL_law_714 rfl ?_
  refine rk_iconst (v := 2) dL_law_716 (by decide) ?_
  refine rk_iadd dL_law_717 ?_
  refine rk_sald dL_law_718 (by first | exact K.2.2.2.2 | exact K1.2.2.2.2 | assumption) (hb 2 (by decide)) ?_
  refine rk_aload_n dL_law_719 rfl ?_
  refine rk_csG (con1) cL_126 dL_law_720 rfl lL_concat (Nat.le_of_ble_eq_true rfl) (Nat.le_of_ble_eq_true rfl) hu.1 hu.2 ?_
  intro r1 h1 p1
  obtain ⟨rfl, C1, f1, K1, hE⟩ := K.callL p1
  refine rk_nxv ?_
  refine rk_istore dL_law_723 (Nat.le_of_ble_eq_true rfl) ?_
  refine rk_lv [some (.ref sb), some (.ref C.a), some (.ref (A 0)), some (.ref lo), some (.ref dq), some (.int i), some (.int (nI res.1)), none, none] ⟨rfl, rfl, rfl, rfl, rfl, rfl, rfl, trivial⟩ ?_
  refine rk_aload_n dL_law_725 rfl ?_
  refine rk_aload_n dL_law_726 rfl ?_
  refine rk_iload dL_law_727 rfl ?_
  refine rk_iconst (v := 1) dL_law_729 (by decide) ?_
  refine rk_iadd dL_law_730 ?_
  refine rk_sald dL_law_731 (by first | exact K.2.2.2.2 | exact K1.2.2.2.2 | assumption) (hb 1 (by decide)) ?_
  refine rk_aload_n dL_law_732 rfl ?_
  refine rk_iload dL_law_733 rfl ?_
  refine rk_iconst (v := 2) dL_law_735 (by decide) ?_
  refine rk_iadd dL_law_736 ?_
  refine rk_sald dL_law_737 (by first | exact K.2.2.2.2 | exact K1.2.2.2.2 | assumption) (hb 2 (by decide)) ?_
  refine rk_cvG (con2 h1 K1.1.2.2.1) cL_129 dL_law_738 rfl lR_concat (Nat.le_of_ble_eq_true rfl) (Nat.le_of_ble_eq_true rfl) hu.1 hu.2 ((congrFun K1.1.2.2.1 _).trans k.m) ?_
  intro r2 h2 p2
  obtain ⟨w, X2, rfl, rfl, e3, e4, K2⟩ := K1.refL hE hI (by decide) ok2 p2
  refine rk_nxv ?_
  refine rk_istore dL_law_741 (Nat.le_of_ble_eq_true rfl) ?_
  refine rk_lv [some (.ref sb), some (.ref C.a), some (.ref (A 0)), some (.ref lo), some (.ref dq), some (.int i), some (.int (nI res.1)), some (.int w), none] ⟨rfl, rfl, rfl, rfl, rfl, rfl, rfl, rfl, trivial⟩ ?_
  refine rk_aload_n dL_law_743 rfl ?_
  refine rk_cvV (c_R_thrown h1 A X2 k) cL_102 dL_law_744 rfl lR_thrown (Nat.le_of_ble_eq_true rfl) (Nat.le_of_ble_eq_true rfl) hu.1 hu.2 k.m ?_
  refine rk_iload dL_law_747 rfl ?_
  refine rk_icmp_eq 754 dL_law_749 (by decide) (fun q_749 => ?_) (fun q_749 => (by exact absurd e3 q_749))
  refine rk_iload dL_law_754 rfl ?_
  refine rk_if_ne 771 dL_law_756 (by decide) (fun q_756 => ?_) (fun q_756 => ?_)
  · refine rk_goto 1633 dL_law_771 (by decide) ?_
    refine rk_lv [some (.ref sb), some (.ref C.a), some (.ref (A 0)), some (.ref lo), some (.ref dq), some (.int i), none, none, none] ⟨rfl, rfl, rfl, rfl, rfl, rfl, trivial⟩ ?_
    exact nx _ ⟨_, _, _, _, _, _, K2⟩
  · refine rk_aload_n dL_law_759 rfl ?_
    refine rk_iconst (v := 0) dL_law_760 (by decide) ?_
    refine rk_lald dL_law_761 (by first | exact K2.1.2.2.1 | assumption) (by first | exact vp00 | assumption) ?_
    refine rk_iload dL_law_762 rfl ?_
    refine rk_i2l dL_law_764 ?_
    refine rk_lcmp dL_law_765 ?_
    refine rk_if_eq 771 dL_law_766 (by decide) (fun q_766 => ?_) (fun q_766 => (by exact absurd (lw_cmp (e4 q_756)) q_766))
    refine rk_goto 1633 dL_law_771 (by decide) ?_
    refine rk_lv [some (.ref sb), some (.ref C.a), some (.ref (A 0)), some (.ref lo), some (.ref dq), some (.int i), none, none, none] ⟨rfl, rfl, rfl, rfl, rfl, rfl, trivial⟩ ?_
    exact nx _ ⟨_, _, _, _, _, _, K2⟩
theorem lw_reshape {A : Nat → Nat} {lo dq sb L ca : Nat} {xs : Nat → Int32} {b h : rk_H} {C : cT} {X : rX} {s : aS} {f : Nat → Int64} {g : Nat → UInt64} (K : lwK A lo dq sb L ca xs b h C X s f g) (i : Int32) (hb : ∀ j : Nat, j < 6 → vp_in (i + nI j) L) {u1 u2 : Nat} (hu : u1 + 9 ≤ 601024 ∧ u2 + 186 ≤ 7293034) (nx : ∀ h1 : rk_H, lwAt A lo dq sb L ca xs h1 → rk_Run mL_law lwB lwP 1633 (lwV A lo dq sb ca i) [] h1 (u1 + 9, u2 + 186)) : rk_Run mL_law lwB lwP 774 (lwV A lo dq sb ca i) [] h (u1, u2) := by
  obtain ⟨K, ok, kX⟩ := K
  obtain rfl := K.1.1
  have k := K.1.2.1
  have con1 := lk_reshape C s.n h K.2.1.1.1.1 (opReshape s (xs (i + 1).toNatClampNeg) (xs (i + 2).toNatClampNeg) (xs (i + 3).toNatClampNeg) (xs (i + 4).toNatClampNeg)) oi_reshape (xs (i + 1).toNatClampNeg) (xs (i + 2).toNatClampNeg) (xs (i + 3).toNatClampNeg) (xs (i + 4).toNatClampNeg) (c_T_reshape C s (xs (i + 1).toNatClampNeg) (xs (i + 2).toNatClampNeg) (xs (i + 3).toNatClampNeg) (xs (i + 4).toNatClampNeg) h K.2.1.1 ok) lo f K.2.2.1 (fun q => (K.2.1.2 _ q).2.1 rfl)
  have con2 : ∀ h1 : rk_H, h1 = rv h1 A X → rk_Con mR_reshape (1, 21, 0, 0) [.ref (A 0), .int (xs (i + 1).toNatClampNeg), .int (xs (i + 2).toNatClampNeg), .int (xs (i + 3).toNatClampNeg), .int (xs (i + 4).toNatClampNeg)] h1 (rPo h1 A (some (.int 0)) (opReshape s (xs (i + 1).toNatClampNeg) (xs (i + 2).toNatClampNeg) (xs (i + 3).toNatClampNeg) (xs (i + 4).toNatClampNeg))) := fun h1 e => lw_cast e (c_R_reshape h1 A X s k kX ok (xs (i + 1).toNatClampNeg) (xs (i + 2).toNatClampNeg) (xs (i + 3).toNatClampNeg) (xs (i + 4).toNatClampNeg))
  have ok2 := ok.reshape (xs (i + 1).toNatClampNeg) (xs (i + 2).toNatClampNeg) (xs (i + 3).toNatClampNeg) (xs (i + 4).toNatClampNeg)
  have hI : oInt (opReshape s (xs (i + 1).toNatClampNeg) (xs (i + 2).toNatClampNeg) (xs (i + 3).toNatClampNeg) (xs (i + 4).toNatClampNeg)) 2 := oi_reshape
  generalize (opReshape s (xs (i + 1).toNatClampNeg) (xs (i + 2).toNatClampNeg) (xs (i + 3).toNatClampNeg) (xs (i + 4).toNatClampNeg)) = res at con1 con2 ok2 hI
  refine rk_aload_n dL_law_774 rfl ?_
  refine rk_aload_n dL_law_775 rfl ?_
  refine rk_iload dL_law_776 rfl ?_
  refine rk_iconst (v := 1) dL_law_778 (by decide) ?_
  refine rk_iadd dL_law_779 ?_
  refine rk_sald dL_law_780 (by first | exact K.2.2.2.2 | exact K1.2.2.2.2 | assumption) (hb 1 (by decide)) ?_
  refine rk_aload_n dL_law_781 rfl ?_
  refine rk_iload dL_law_782 rfl ?_
  refine rk_iconst (v := 2) dL_law_784 (by decide) ?_
  refine rk_iadd dL_law_785 ?_
  refine rk_sald dL_law_786 (by first | exact K.2.2.2.2 | exact K1.2.2.2.2 | assumption) (hb 2 (by decide)) ?_
  refine rk_aload_n dL_law_787 rfl ?_
  refine rk_iload dL_law_788 rfl ?_
  refine rk_iconst (v := 3) dL_law_790 (by decide) ?_
  refine rk_iadd dL_law_791 ?_
  refine rk_sald dL_law_792 (by first | exact K.2.2.2.2 | exact K1.2.2.2.2 | assumption) (hb 3 (by decide)) ?_
  refine rk_aload_n dL_law_793 rfl ?_
  refine rk_iload dL_law_794 rfl ?_
  refine rk_iconst (v := 4) dL_law_796 (by decide) ?_
  refine rk_iadd dL_law_797 ?_
  refine rk_sald dL_law_798 (by first | exact K.2.2.2.2 | exact K1.2.2.2.2 | assumption) (hb 4 (by decide)) ?_
  refine rk_aload_n dL_law_799 rfl ?_
  refine rk_csG (con1) cL_130 dL_law_800 rfl lL_reshape (Nat.le_of_ble_eq_true rfl) (Nat.le_of_ble_eq_true rfl) hu.1 hu.2 ?_
  intro r1 h1 p1
  obtain ⟨rfl, C1, f1, K1, hE⟩ := K.callL p1
  refine rk_nxv ?_
  refine rk_istore dL_law_803 (Nat.le_of_ble_eq_true rfl) ?_
  refine rk_lv [some (.ref sb), some (.ref C.a), some (.ref (A 0)), some (.ref lo), some (.ref dq), some (.int i), some (.int (nI res.1)), none, none] ⟨rfl, rfl, rfl, rfl, rfl, rfl, rfl, trivial⟩ ?_
  refine rk_aload_n dL_law_805 rfl ?_
  refine rk_aload_n dL_law_806 rfl ?_
  refine rk_iload dL_law_807 rfl ?_
  refine rk_iconst (v := 1) dL_law_809 (by decide) ?_
  refine rk_iadd dL_law_810 ?_
  refine rk_sald dL_law_811 (by first | exact K.2.2.2.2 | exact K1.2.2.2.2 | assumption) (hb 1 (by decide)) ?_
  refine rk_aload_n dL_law_812 rfl ?_
  refine rk_iload dL_law_813 rfl ?_
  refine rk_iconst (v := 2) dL_law_815 (by decide) ?_
  refine rk_iadd dL_law_816 ?_
  refine rk_sald dL_law_817 (by first | exact K.2.2.2.2 | exact K1.2.2.2.2 | assumption) (hb 2 (by decide)) ?_
  refine rk_aload_n dL_law_818 rfl ?_
  refine rk_iload dL_law_819 rfl ?_
  refine rk_iconst (v := 3) dL_law_821 (by decide) ?_
  refine rk_iadd dL_law_822 ?_
  refine rk_sald dL_law_823 (by first | exact K.2.2.2.2 | exact K1.2.2.2.2 | assumption) (hb 3 (by decide)) ?_
  refine rk_aload_n dL_law_824 rfl ?_
  refine rk_iload dL_law_825 rfl ?_
  refine rk_iconst (v := 4) dL_law_827 (by decide) ?_
  refine rk_iadd dL_law_828 ?_
  refine rk_sald dL_law_829 (by first | exact K.2.2.2.2 | exact K1.2.2.2.2 | assumption) (hb 4 (by decide)) ?_
  refine rk_cvG (con2 h1 K1.1.2.2.1) cL_133 dL_law_830 rfl lR_reshape (Nat.le_of_ble_eq_true rfl) (Nat.le_of_ble_eq_true rfl) hu.1 hu.2 ((congrFun K1.1.2.2.1 _).trans k.m) ?_
  intro r2 h2 p2
  obtain ⟨w, X2, rfl, rfl, e3, e4, K2⟩ := K1.refL hE hI (by decide) ok2 p2
  refine rk_nxv ?_
  refine rk_istore dL_law_833 (Nat.le_of_ble_eq_true rfl) ?_
  refine rk_lv [some (.ref sb), some (.ref C.a), some (.ref (A 0)), some (.ref lo), some (.ref dq), some (.int i), some (.int (nI res.1)), some (.int w), none] ⟨rfl, rfl, rfl, rfl, rfl, rfl, rfl, rfl, trivial⟩ ?_
  refine rk_aload_n dL_law_835 rfl ?_
  refine rk_cvV (c_R_thrown h1 A X2 k) cL_102 dL_law_836 rfl lR_thrown (Nat.le_of_ble_eq_true rfl) (Nat.le_of_ble_eq_true rfl) hu.1 hu.2 k.m ?_
  refine rk_iload dL_law_839 rfl ?_
  refine rk_icmp_eq 846 dL_law_841 (by decide) (fun q_841 => ?_) (fun q_841 => (by exact absurd e3 q_841))
  refine rk_iload dL_law_846 rfl ?_
  refine rk_if_ne 863 dL_law_848 (by decide) (fun q_848 => ?_) (fun q_848 => ?_)
  · refine rk_goto 1633 dL_law_863 (by decide) ?_
    refine rk_lv [some (.ref sb), some (.ref C.a), some (.ref (A 0)), some (.ref lo), some (.ref dq), some (.int i), none, none, none] ⟨rfl, rfl, rfl, rfl, rfl, rfl, trivial⟩ ?_
    exact nx _ ⟨_, _, _, _, _, _, K2⟩
  · refine rk_aload_n dL_law_851 rfl ?_
    refine rk_iconst (v := 0) dL_law_852 (by decide) ?_
    refine rk_lald dL_law_853 (by first | exact K2.1.2.2.1 | assumption) (by first | exact vp00 | assumption) ?_
    refine rk_iload dL_law_854 rfl ?_
    refine rk_i2l dL_law_856 ?_
    refine rk_lcmp dL_law_857 ?_
    refine rk_if_eq 863 dL_law_858 (by decide) (fun q_858 => ?_) (fun q_858 => (by exact absurd (lw_cmp (e4 q_848)) q_858))
    refine rk_goto 1633 dL_law_863 (by decide) ?_
    refine rk_lv [some (.ref sb), some (.ref C.a), some (.ref (A 0)), some (.ref lo), some (.ref dq), some (.int i), none, none, none] ⟨rfl, rfl, rfl, rfl, rfl, rfl, trivial⟩ ?_
    exact nx _ ⟨_, _, _, _, _, _, K2⟩
theorem lw_poolz {A : Nat → Nat} {lo dq sb L ca : Nat} {xs : Nat → Int32} {b h : rk_H} {C : cT} {X : rX} {s : aS} {f : Nat → Int64} {g : Nat → UInt64} (K : lwK A lo dq sb L ca xs b h C X s f g) (i : Int32) (hb : ∀ j : Nat, j < 6 → vp_in (i + nI j) L) {u1 u2 : Nat} (hu : u1 + 9 ≤ 601024 ∧ u2 + 186 ≤ 7293034) (hz : xs (i + 3).toNatClampNeg = 0) (nx : ∀ h1 : rk_H, lwAt A lo dq sb L ca xs h1 → rk_Run mL_law lwB lwP 1633 (lwV A lo dq sb ca i) [] h1 (u1 + 9, u2 + 186)) : rk_Run mL_law lwB lwP 866 (lwV A lo dq sb ca i) [] h (u1, u2) := by
  obtain ⟨K, ok, kX⟩ := K
  obtain rfl := K.1.1
  have k := K.1.2.1
  have con1 := lk_pool C s.n h K.2.1.1.1.1 (opPool s (xs (i + 1).toNatClampNeg) (xs (i + 2).toNatClampNeg) (0)) oi_pool (xs (i + 1).toNatClampNeg) (xs (i + 2).toNatClampNeg) (0) (c_T_pool C s (xs (i + 1).toNatClampNeg) (xs (i + 2).toNatClampNeg) (0) h K.2.1.1 ok) lo f K.2.2.1 (fun q => (K.2.1.2 _ q).2.1 rfl)
  have con2 : ∀ h1 : rk_H, h1 = rv h1 A X → rk_Con mR_pool (2, 33, 0, 0) [.ref (A 0), .int (xs (i + 1).toNatClampNeg), .int (xs (i + 2).toNatClampNeg), .int (0)] h1 (rPo h1 A (some (.int 0)) (opPool s (xs (i + 1).toNatClampNeg) (xs (i + 2).toNatClampNeg) (0))) := fun h1 e => lw_cast e (c_R_pool h1 A X s k kX ok (xs (i + 1).toNatClampNeg) (xs (i + 2).toNatClampNeg) (0))
  have ok2 := ok.pool (xs (i + 1).toNatClampNeg) (xs (i + 2).toNatClampNeg) (0)
  have hI : oInt (opPool s (xs (i + 1).toNatClampNeg) (xs (i + 2).toNatClampNeg) (0)) 2 := oi_pool
  generalize (opPool s (xs (i + 1).toNatClampNeg) (xs (i + 2).toNatClampNeg) (0)) = res at con1 con2 ok2 hI
  refine rk_aload_n dL_law_866 rfl ?_
  refine rk_aload_n dL_law_867 rfl ?_
  refine rk_iload dL_law_868 rfl ?_
  refine rk_iconst (v := 1) dL_law_870 (by decide) ?_
  refine rk_iadd dL_law_871 ?_
  refine rk_sald dL_law_872 (by first | exact K.2.2.2.2 | exact K1.2.2.2.2 | assumption) (hb 1 (by decide)) ?_
  refine rk_aload_n dL_law_873 rfl ?_
  refine rk_iload dL_law_874 rfl ?_
  refine rk_iconst (v := 2) dL_law_876 (by decide) ?_
  refine rk_iadd dL_law_877 ?_
  refine rk_sald dL_law_878 (by first | exact K.2.2.2.2 | exact K1.2.2.2.2 | assumption) (hb 2 (by decide)) ?_
  refine rk_aload_n dL_law_879 rfl ?_
  refine rk_iload dL_law_880 rfl ?_
  refine rk_iconst (v := 3) dL_law_882 (by decide) ?_
  refine rk_iadd dL_law_883 ?_
  refine rk_sald dL_law_884 (by first | exact K.2.2.2.2 | exact K1.2.2.2.2 | assumption) (hb 3 (by decide)) ?_
  refine rk_if_eq 892 dL_law_885 (by decide) (fun q_885 => ?_) (fun q_885 => (by exact absurd hz q_885))
  refine rk_iconst (v := 0) dL_law_892 (by decide) ?_
  refine rk_aload_n dL_law_893 rfl ?_
  refine rk_csG (con1) cL_134 dL_law_894 rfl lL_pool (Nat.le_of_ble_eq_true rfl) (Nat.le_of_ble_eq_true rfl) hu.1 hu.2 ?_
  intro r1 h1 p1
  obtain ⟨rfl, C1, f1, K1, hE⟩ := K.callL p1
  refine rk_nxv ?_
  refine rk_istore dL_law_897 (Nat.le_of_ble_eq_true rfl) ?_
  refine rk_lv [some (.ref sb), some (.ref C.a), some (.ref (A 0)), some (.ref lo), some (.ref dq), some (.int i), some (.int (nI res.1)), none, none] ⟨rfl, rfl, rfl, rfl, rfl, rfl, rfl, trivial⟩ ?_
  refine rk_aload_n dL_law_899 rfl ?_
  refine rk_aload_n dL_law_900 rfl ?_
  refine rk_iload dL_law_901 rfl ?_
  refine rk_iconst (v := 1) dL_law_903 (by decide) ?_
  refine rk_iadd dL_law_904 ?_
  refine rk_sald dL_law_905 (by first | exact K.2.2.2.2 | exact K1.2.2.2.2 | assumption) (hb 1 (by decide)) ?_
  refine rk_aload_n dL_law_906 rfl ?_
  refine rk_iload dL_law_907 rfl ?_
  refine rk_iconst (v := 2) dL_law_909 (by decide) ?_
  refine rk_iadd dL_law_910 ?_
  refine rk_sald dL_law_911 (by first | exact K.2.2.2.2 | exact K1.2.2.2.2 | assumption) (hb 2 (by decide)) ?_
  refine rk_aload_n dL_law_912 rfl ?_
  refine rk_iload dL_law_913 rfl ?_
  refine rk_iconst (v := 3) dL_law_915 (by decide) ?_
  refine rk_iadd dL_law_916 ?_
  refine rk_sald dL_law_917 (by first | exact K.2.2.2.2 | exact K1.2.2.2.2 | assumption) (hb 3 (by decide)) ?_
  refine rk_if_eq 925 dL_law_918 (by decide) (fun q_918 => ?_) (fun q_918 => (by exact absurd hz q_918))
  refine rk_iconst (v := 0) dL_law_925 (by decide) ?_
  refine rk_cvG (con2 h1 K1.1.2.2.1) cL_137 dL_law_926 rfl lR_pool (Nat.le_of_ble_eq_true rfl) (Nat.le_of_ble_eq_true rfl) hu.1 hu.2 ((congrFun K1.1.2.2.1 _).trans k.m) ?_
  intro r2 h2 p2
  obtain ⟨w, X2, rfl, rfl, e3, e4, K2⟩ := K1.refL hE hI (by decide) ok2 p2
  refine rk_nxv ?_
  refine rk_istore dL_law_929 (Nat.le_of_ble_eq_true rfl) ?_
  refine rk_lv [some (.ref sb), some (.ref C.a), some (.ref (A 0)), some (.ref lo), some (.ref dq), some (.int i), some (.int (nI res.1)), some (.int w), none] ⟨rfl, rfl, rfl, rfl, rfl, rfl, rfl, rfl, trivial⟩ ?_
  refine rk_aload_n dL_law_931 rfl ?_
  refine rk_cvV (c_R_thrown h1 A X2 k) cL_102 dL_law_932 rfl lR_thrown (Nat.le_of_ble_eq_true rfl) (Nat.le_of_ble_eq_true rfl) hu.1 hu.2 k.m ?_
  refine rk_iload dL_law_935 rfl ?_
  refine rk_icmp_eq 942 dL_law_937 (by decide) (fun q_937 => ?_) (fun q_937 => (by exact absurd e3 q_937))
  refine rk_iload dL_law_942 rfl ?_
  refine rk_if_ne 959 dL_law_944 (by decide) (fun q_944 => ?_) (fun q_944 => ?_)
  · refine rk_goto 1633 dL_law_959 (by decide) ?_
    refine rk_lv [some (.ref sb), some (.ref C.a), some (.ref (A 0)), some (.ref lo), some (.ref dq), some (.int i), none, none, none] ⟨rfl, rfl, rfl, rfl, rfl, rfl, trivial⟩ ?_
    exact nx _ ⟨_, _, _, _, _, _, K2⟩
  · refine rk_aload_n dL_law_947 rfl ?_
    refine rk_iconst (v := 0) dL_law_948 (by decide) ?_
    refine rk_lald dL_law_949 (by first | exact K2.1.2.2.1 | assumption) (by first | exact vp00 | assumption) ?_
    refine rk_iload dL_law_950 rfl ?_
    refine rk_i2l dL_law_952 ?_
    refine rk_lcmp dL_law_953 ?_
    refine rk_if_eq 959 dL_law_954 (by decide) (fun q_954 => ?_) (fun q_954 => (by exact absurd (lw_cmp (e4 q_944)) q_954))
    refine rk_goto 1633 dL_law_959 (by decide) ?_
    refine rk_lv [some (.ref sb), some (.ref C.a), some (.ref (A 0)), some (.ref lo), some (.ref dq), some (.int i), none, none, none] ⟨rfl, rfl, rfl, rfl, rfl, rfl, trivial⟩ ?_
    exact nx _ ⟨_, _, _, _, _, _, K2⟩
theorem lw_pooln {A : Nat → Nat} {lo dq sb L ca : Nat} {xs : Nat → Int32} {b h : rk_H} {C : cT} {X : rX} {s : aS} {f : Nat → Int64} {g : Nat → UInt64} (K : lwK A lo dq sb L ca xs b h C X s f g) (i : Int32) (hb : ∀ j : Nat, j < 6 → vp_in (i + nI j) L) {u1 u2 : Nat} (hu : u1 + 9 ≤ 601024 ∧ u2 + 186 ≤ 7293034) (hz : ¬ xs (i + 3).toNatClampNeg = 0) (nx : ∀ h1 : rk_H, lwAt A lo dq sb L ca xs h1 → rk_Run mL_law lwB lwP 1633 (lwV A lo dq sb ca i) [] h1 (u1 + 9, u2 + 186)) : rk_Run mL_law lwB lwP 866 (lwV A lo dq sb ca i) [] h (u1, u2) := by
  obtain ⟨K, ok, kX⟩ := K
  obtain rfl := K.1.1
  have k := K.1.2.1
  have con1 := lk_pool C s.n h K.2.1.1.1.1 (opPool s (xs (i + 1).toNatClampNeg) (xs (i + 2).toNatClampNeg) (1)) oi_pool (xs (i + 1).toNatClampNeg) (xs (i + 2).toNatClampNeg) (1) (c_T_pool C s (xs (i + 1).toNatClampNeg) (xs (i + 2).toNatClampNeg) (1) h K.2.1.1 ok) lo f K.2.2.1 (fun q => (K.2.1.2 _ q).2.1 rfl)
  have con2 : ∀ h1 : rk_H, h1 = rv h1 A X → rk_Con mR_pool (2, 33, 0, 0) [.ref (A 0), .int (xs (i + 1).toNatClampNeg), .int (xs (i + 2).toNatClampNeg), .int (1)] h1 (rPo h1 A (some (.int 0)) (opPool s (xs (i + 1).toNatClampNeg) (xs (i + 2).toNatClampNeg) (1))) := fun h1 e => lw_cast e (c_R_pool h1 A X s k kX ok (xs (i + 1).toNatClampNeg) (xs (i + 2).toNatClampNeg) (1))
  have ok2 := ok.pool (xs (i + 1).toNatClampNeg) (xs (i + 2).toNatClampNeg) (1)
  have hI : oInt (opPool s (xs (i + 1).toNatClampNeg) (xs (i + 2).toNatClampNeg) (1)) 2 := oi_pool
  generalize (opPool s (xs (i + 1).toNatClampNeg) (xs (i + 2).toNatClampNeg) (1)) = res at con1 con2 ok2 hI
  refine rk_aload_n dL_law_866 rfl ?_
  refine rk_aload_n dL_law_867 rfl ?_
  refine rk_iload dL_law_868 rfl ?_
  refine rk_iconst (v := 1) dL_law_870 (by decide) ?_
  refine rk_iadd dL_law_871 ?_
  refine rk_sald dL_law_872 (by first | exact K.2.2.2.2 | exact K1.2.2.2.2 | assumption) (hb 1 (by decide)) ?_
  refine rk_aload_n dL_law_873 rfl ?_
  refine rk_iload dL_law_874 rfl ?_
  refine rk_iconst (v := 2) dL_law_876 (by decide) ?_
  refine rk_iadd dL_law_877 ?_
  refine rk_sald dL_law_878 (by first | exact K.2.2.2.2 | exact K1.2.2.2.2 | assumption) (hb 2 (by decide)) ?_
  refine rk_aload_n dL_law_879 rfl ?_
  refine rk_iload dL_law_880 rfl ?_
  refine rk_iconst (v := 3) dL_law_882 (by decide) ?_
  refine rk_iadd dL_law_883 ?_
  refine rk_sald dL_law_884 (by first | exact K.2.2.2.2 | exact K1.2.2.2.2 | assumption) (hb 3 (by decide)) ?_
  refine rk_if_eq 892 dL_law_885 (by decide) (fun q_885 => (by exact absurd q_885 hz)) (fun q_885 => ?_)
  refine rk_iconst (v := 1) dL_law_888 (by decide) ?_
  refine rk_goto 893 dL_law_889 (by decide) ?_
  refine rk_aload_n dL_law_893 rfl ?_
  refine rk_csG (con1) cL_134 dL_law_894 rfl lL_pool (Nat.le_of_ble_eq_true rfl) (Nat.le_of_ble_eq_true rfl) hu.1 hu.2 ?_
  intro r1 h1 p1
  obtain ⟨rfl, C1, f1, K1, hE⟩ := K.callL p1
  refine rk_nxv ?_
  refine rk_istore dL_law_897 (Nat.le_of_ble_eq_true rfl) ?_
  refine rk_lv [some (.ref sb), some (.ref C.a), some (.ref (A 0)), some (.ref lo), some (.ref dq), some (.int i), some (.int (nI res.1)), none, none] ⟨rfl, rfl, rfl, rfl, rfl, rfl, rfl, trivial⟩ ?_
  refine rk_aload_n dL_law_899 rfl ?_
  refine rk_aload_n dL_law_900 rfl ?_
  refine rk_iload dL_law_901 rfl ?_
  refine rk_iconst (v := 1) dL_law_903 (by decide) ?_
  refine rk_iadd dL_law_904 ?_
  refine rk_sald dL_law_905 (by first | exact K.2.2.2.2 | exact K1.2.2.2.2 | assumption) (hb 1 (by decide)) ?_
  refine rk_aload_n dL_law_906 rfl ?_
  refine rk_iload dL_law_907 rfl ?_
  refine rk_iconst (v := 2) dL_law_909 (by decide) ?_
  refine rk_iadd dL_law_910 ?_
  refine rk_sald dL_law_911 (by first | exact K.2.2.2.2 | exact K1.2.2.2.2 | assumption) (hb 2 (by decide)) ?_
  refine rk_aload_n dL_law_912 rfl ?_
  refine rk_iload dL_law_913 rfl ?_
  refine rk_iconst (v := 3) dL_law_915 (by decide) ?_
  refine rk_iadd dL_law_916 ?_
  refine rk_sald dL_law_917 (by first | exact K.2.2.2.2 | exact K1.2.2.2.2 | assumption) (hb 3 (by decide)) ?_
  refine rk_if_eq 925 dL_law_918 (by decide) (fun q_918 => (by exact absurd q_918 hz)) (fun q_918 => ?_)
  refine rk_iconst (v := 1) dL_law_921 (by decide) ?_
  refine rk_goto 926 dL_law_922 (by decide) ?_
  refine rk_cvG (con2 h1 K1.1.2.2.1) cL_137 dL_law_926 rfl lR_pool (Nat.le_of_ble_eq_true rfl) (Nat.le_of_ble_eq_true rfl) hu.1 hu.2 ((congrFun K1.1.2.2.1 _).trans k.m) ?_
  intro r2 h2 p2
  obtain ⟨w, X2, rfl, rfl, e3, e4, K2⟩ := K1.refL hE hI (by decide) ok2 p2
  refine rk_nxv ?_
  refine rk_istore dL_law_929 (Nat.le_of_ble_eq_true rfl) ?_
  refine rk_lv [some (.ref sb), some (.ref C.a), some (.ref (A 0)), some (.ref lo), some (.ref dq), some (.int i), some (.int (nI res.1)), some (.int w), none] ⟨rfl, rfl, rfl, rfl, rfl, rfl, rfl, rfl, trivial⟩ ?_
  refine rk_aload_n dL_law_931 rfl ?_
  refine rk_cvV (c_R_thrown h1 A X2 k) cL_102 dL_law_932 rfl lR_thrown (Nat.le_of_ble_eq_true rfl) (Nat.le_of_ble_eq_true rfl) hu.1 hu.2 k.m ?_
  refine rk_iload dL_law_935 rfl ?_
  refine rk_icmp_eq 942 dL_law_937 (by decide) (fun q_937 => ?_) (fun q_937 => (by exact absurd e3 q_937))
  refine rk_iload dL_law_942 rfl ?_
  refine rk_if_ne 959 dL_law_944 (by decide) (fun q_944 => ?_) (fun q_944 => ?_)
  · refine rk_goto 1633 dL_law_959 (by decide) ?_
    refine rk_lv [some (.ref sb), some (.ref C.a), some (.ref (A 0)), some (.ref lo), some (.ref dq), some (.int i), none, none, none] ⟨rfl, rfl, rfl, rfl, rfl, rfl, trivial⟩ ?_
    exact nx _ ⟨_, _, _, _, _, _, K2⟩
  · refine rk_aload_n dL_law_947 rfl ?_
    refine rk_iconst (v := 0) dL_law_948 (by decide) ?_
    refine rk_lald dL_law_949 (by first | exact K2.1.2.2.1 | assumption) (by first | exact vp00 | assumption) ?_
    refine rk_iload dL_law_950 rfl ?_
    refine rk_i2l dL_law_952 ?_
    refine rk_lcmp dL_law_953 ?_
    refine rk_if_eq 959 dL_law_954 (by decide) (fun q_954 => ?_) (fun q_954 => (by exact absurd (lw_cmp (e4 q_944)) q_954))
    refine rk_goto 1633 dL_law_959 (by decide) ?_
    refine rk_lv [some (.ref sb), some (.ref C.a), some (.ref (A 0)), some (.ref lo), some (.ref dq), some (.int i), none, none, none] ⟨rfl, rfl, rfl, rfl, rfl, rfl, trivial⟩ ?_
    exact nx _ ⟨_, _, _, _, _, _, K2⟩
theorem lw_clamp {A : Nat → Nat} {lo dq sb L ca : Nat} {xs : Nat → Int32} {b h : rk_H} {C : cT} {X : rX} {s : aS} {f : Nat → Int64} {g : Nat → UInt64} (K : lwK A lo dq sb L ca xs b h C X s f g) (i : Int32) (hb : ∀ j : Nat, j < 6 → vp_in (i + nI j) L) {u1 u2 : Nat} (hu : u1 + 9 ≤ 601024 ∧ u2 + 186 ≤ 7293034) (nx : ∀ h1 : rk_H, lwAt A lo dq sb L ca xs h1 → rk_Run mL_law lwB lwP 1633 (lwV A lo dq sb ca i) [] h1 (u1 + 9, u2 + 186)) : rk_Run mL_law lwB lwP 962 (lwV A lo dq sb ca i) [] h (u1, u2) := by
  obtain ⟨K, ok, kX⟩ := K
  obtain rfl := K.1.1
  have k := K.1.2.1
  have con1 := lk_clamp C s.n h K.2.1.1.1.1 (opClamp s (xs (i + 1).toNatClampNeg) (xs (i + 2).toNatClampNeg) (xs (i + 3).toNatClampNeg)) oi_clamp (xs (i + 1).toNatClampNeg) (xs (i + 2).toNatClampNeg) (xs (i + 3).toNatClampNeg) (c_T_clamp C s (xs (i + 1).toNatClampNeg) (xs (i + 2).toNatClampNeg) (xs (i + 3).toNatClampNeg) h K.2.1.1 ok) lo f K.2.2.1 (fun q => (K.2.1.2 _ q).2.1 rfl)
  have con2 : ∀ h1 : rk_H, h1 = rv h1 A X → rk_Con mR_clamp (1, 21, 0, 0) [.ref (A 0), .int (xs (i + 1).toNatClampNeg), .int (xs (i + 2).toNatClampNeg), .int (xs (i + 3).toNatClampNeg)] h1 (rPo h1 A (some (.int 0)) (opClamp s (xs (i + 1).toNatClampNeg) (xs (i + 2).toNatClampNeg) (xs (i + 3).toNatClampNeg))) := fun h1 e => lw_cast e (c_R_clamp h1 A X s k kX ok (xs (i + 1).toNatClampNeg) (xs (i + 2).toNatClampNeg) (xs (i + 3).toNatClampNeg))
  have ok2 := ok.clamp (xs (i + 1).toNatClampNeg) (xs (i + 2).toNatClampNeg) (xs (i + 3).toNatClampNeg)
  have hI : oInt (opClamp s (xs (i + 1).toNatClampNeg) (xs (i + 2).toNatClampNeg) (xs (i + 3).toNatClampNeg)) 2 := oi_clamp
  generalize (opClamp s (xs (i + 1).toNatClampNeg) (xs (i + 2).toNatClampNeg) (xs (i + 3).toNatClampNeg)) = res at con1 con2 ok2 hI
  refine rk_aload_n dL_law_962 rfl ?_
  refine rk_aload_n dL_law_963 rfl ?_
  refine rk_iload dL_law_964 rfl ?_
  refine rk_iconst (v := 1) dL_law_966 (by decide) ?_
  refine rk_iadd dL_law_967 ?_
  refine rk_sald dL_law_968 (by first | exact K.2.2.2.2 | exact K1.2.2.2.2 | assumption) (hb 1 (by decide)) ?_
  refine rk_aload_n dL_law_969 rfl ?_
  refine rk_iload dL_law_970 rfl ?_
  refine rk_iconst (v := 2) dL_law_972 (by decide) ?_
  refine rk_iadd dL_law_973 ?_
  refine rk_sald dL_law_974 (by first | exact K.2.2.2.2 | exact K1.2.2.2.2 | assumption) (hb 2 (by decide)) ?_
  refine rk_aload_n dL_law_975 rfl ?_
  refine rk_iload dL_law_976 rfl ?_
  refine rk_iconst (v := 3) dL_law_978 (by decide) ?_
  refine rk_iadd dL_law_979 ?_
  refine rk_sald dL_law_980 (by first | exact K.2.2.2.2 | exact K1.2.2.2.2 | assumption) (hb 3 (by decide)) ?_
  refine rk_aload_n dL_law_981 rfl ?_
  refine rk_csG (con1) cL_138 dL_law_982 rfl lL_clamp (Nat.le_of_ble_eq_true rfl) (Nat.le_of_ble_eq_true rfl) hu.1 hu.2 ?_
  intro r1 h1 p1
  obtain ⟨rfl, C1, f1, K1, hE⟩ := K.callL p1
  refine rk_nxv ?_
  refine rk_istore dL_law_985 (Nat.le_of_ble_eq_true rfl) ?_
  refine rk_lv [some (.ref sb), some (.ref C.a), some (.ref (A 0)), some (.ref lo), some (.ref dq), some (.int i), some (.int (nI res.1)), none, none] ⟨rfl, rfl, rfl, rfl, rfl, rfl, rfl, trivial⟩ ?_
  refine rk_aload_n dL_law_987 rfl ?_
  refine rk_aload_n dL_law_988 rfl ?_
  refine rk_iload dL_law_989 rfl ?_
  refine rk_iconst (v := 1) dL_law_991 (by decide) ?_
  refine rk_iadd dL_law_992 ?_
  refine rk_sald dL_law_993 (by first | exact K.2.2.2.2 | exact K1.2.2.2.2 | assumption) (hb 1 (by decide)) ?_
  refine rk_aload_n dL_law_994 rfl ?_
  refine rk_iload dL_law_995 rfl ?_
  refine rk_iconst (v := 2) dL_law_997 (by decide) ?_
  refine rk_iadd dL_law_998 ?_
  refine rk_sald dL_law_999 (by first | exact K.2.2.2.2 | exact K1.2.2.2.2 | assumption) (hb 2 (by decide)) ?_
  refine rk_aload_n dL_law_1000 rfl ?_
  refine rk_iload dL_law_1001 rfl ?_
  refine rk_iconst (v := 3) dL_law_1003 (by decide) ?_
  refine rk_iadd dL_law_1004 ?_
  refine rk_sald dL_law_1005 (by first | exact K.2.2.2.2 | exact K1.2.2.2.2 | assumption) (hb 3 (by decide)) ?_
  refine rk_cvG (con2 h1 K1.1.2.2.1) cL_141 dL_law_1006 rfl lR_clamp (Nat.le_of_ble_eq_true rfl) (Nat.le_of_ble_eq_true rfl) hu.1 hu.2 ((congrFun K1.1.2.2.1 _).trans k.m) ?_
  intro r2 h2 p2
  obtain ⟨w, X2, rfl, rfl, e3, e4, K2⟩ := K1.refL hE hI (by decide) ok2 p2
  refine rk_nxv ?_
  refine rk_istore dL_law_1009 (Nat.le_of_ble_eq_true rfl) ?_
  refine rk_lv [some (.ref sb), some (.ref C.a), some (.ref (A 0)), some (.ref lo), some (.ref dq), some (.int i), some (.int (nI res.1)), some (.int w), none] ⟨rfl, rfl, rfl, rfl, rfl, rfl, rfl, rfl, trivial⟩ ?_
  refine rk_aload_n dL_law_1011 rfl ?_
  refine rk_cvV (c_R_thrown h1 A X2 k) cL_102 dL_law_1012 rfl lR_thrown (Nat.le_of_ble_eq_true rfl) (Nat.le_of_ble_eq_true rfl) hu.1 hu.2 k.m ?_
  refine rk_iload dL_law_1015 rfl ?_
  refine rk_icmp_eq 1022 dL_law_1017 (by decide) (fun q_1017 => ?_) (fun q_1017 => (by exact absurd e3 q_1017))
  refine rk_iload dL_law_1022 rfl ?_
  refine rk_if_ne 1039 dL_law_1024 (by decide) (fun q_1024 => ?_) (fun q_1024 => ?_)
  · refine rk_goto 1633 dL_law_1039 (by decide) ?_
    refine rk_lv [some (.ref sb), some (.ref C.a), some (.ref (A 0)), some (.ref lo), some (.ref dq), some (.int i), none, none, none] ⟨rfl, rfl, rfl, rfl, rfl, rfl, trivial⟩ ?_
    exact nx _ ⟨_, _, _, _, _, _, K2⟩
  · refine rk_aload_n dL_law_1027 rfl ?_
    refine rk_iconst (v := 0) dL_law_1028 (by decide) ?_
    refine rk_lald dL_law_1029 (by first | exact K2.1.2.2.1 | assumption) (by first | exact vp00 | assumption) ?_
    refine rk_iload dL_law_1030 rfl ?_
    refine rk_i2l dL_law_1032 ?_
    refine rk_lcmp dL_law_1033 ?_
    refine rk_if_eq 1039 dL_law_1034 (by decide) (fun q_1034 => ?_) (fun q_1034 => (by exact absurd (lw_cmp (e4 q_1024)) q_1034))
    refine rk_goto 1633 dL_law_1039 (by decide) ?_
    refine rk_lv [some (.ref sb), some (.ref C.a), some (.ref (A 0)), some (.ref lo), some (.ref dq), some (.int i), none, none, none] ⟨rfl, rfl, rfl, rfl, rfl, rfl, trivial⟩ ?_
    exact nx _ ⟨_, _, _, _, _, _, K2⟩
theorem lw_rescale {A : Nat → Nat} {lo dq sb L ca : Nat} {xs : Nat → Int32} {b h : rk_H} {C : cT} {X : rX} {s : aS} {f : Nat → Int64} {g : Nat → UInt64} (K : lwK A lo dq sb L ca xs b h C X s f g) (i : Int32) (hb : ∀ j : Nat, j < 6 → vp_in (i + nI j) L) {u1 u2 : Nat} (hu : u1 + 9 ≤ 601024 ∧ u2 + 186 ≤ 7293034) (nx : ∀ h1 : rk_H, lwAt A lo dq sb L ca xs h1 → rk_Run mL_law lwB lwP 1633 (lwV A lo dq sb ca i) [] h1 (u1 + 9, u2 + 186)) : rk_Run mL_law lwB lwP 1042 (lwV A lo dq sb ca i) [] h (u1, u2) := by
  obtain ⟨K, ok, kX⟩ := K
  obtain rfl := K.1.1
  have k := K.1.2.1
  have con1 := lk_rescale C s.n h K.2.1.1.1.1 (opRescale s (xs (i + 1).toNatClampNeg) (FP.dmul (FP.i2d (xs (i + 2).toNatClampNeg)) 4593671619917905920)) oi_rescale (xs (i + 1).toNatClampNeg) (FP.dmul (FP.i2d (xs (i + 2).toNatClampNeg)) 4593671619917905920) (c_T_rescale C s (xs (i + 1).toNatClampNeg) (FP.dmul (FP.i2d (xs (i + 2).toNatClampNeg)) 4593671619917905920) h K.2.1.1 ok) lo f K.2.2.1 (fun q => (K.2.1.2 _ q).2.1 rfl)
  have con2 : ∀ h1 : rk_H, h1 = rv h1 A X → rk_Con mR_rescale (1, 21, 0, 0) [.ref (A 0), .int (xs (i + 1).toNatClampNeg), .double (FP.dmul (FP.i2d (xs (i + 2).toNatClampNeg)) 4593671619917905920)] h1 (rPo h1 A (some (.int 0)) (opRescale s (xs (i + 1).toNatClampNeg) (FP.dmul (FP.i2d (xs (i + 2).toNatClampNeg)) 4593671619917905920))) := fun h1 e => lw_cast e (c_R_rescale h1 A X s k kX ok (xs (i + 1).toNatClampNeg) (FP.dmul (FP.i2d (xs (i + 2).toNatClampNeg)) 4593671619917905920) (law_ds (xs (i + 2).toNatClampNeg)))
  have ok2 := ok.rescale (xs (i + 1).toNatClampNeg) (FP.dmul (FP.i2d (xs (i + 2).toNatClampNeg)) 4593671619917905920)
  have hI : oInt (opRescale s (xs (i + 1).toNatClampNeg) (FP.dmul (FP.i2d (xs (i + 2).toNatClampNeg)) 4593671619917905920)) 3 := oi_rescale
  generalize (opRescale s (xs (i + 1).toNatClampNeg) (FP.dmul (FP.i2d (xs (i + 2).toNatClampNeg)) 4593671619917905920)) = res at con1 con2 ok2 hI
  refine rk_aload_n dL_law_1042 rfl ?_
  refine rk_aload_n dL_law_1043 rfl ?_
  refine rk_iload dL_law_1044 rfl ?_
  refine rk_iconst (v := 1) dL_law_1046 (by decide) ?_
  refine rk_iadd dL_law_1047 ?_
  refine rk_sald dL_law_1048 (by first | exact K.2.2.2.2 | exact K1.2.2.2.2 | assumption) (hb 1 (by decide)) ?_
  refine rk_aload_n dL_law_1049 rfl ?_
  refine rk_iload dL_law_1050 rfl ?_
  refine rk_iconst (v := 2) dL_law_1052 (by decide) ?_
  refine rk_iadd dL_law_1053 ?_
  refine rk_sald dL_law_1054 (by first | exact K.2.2.2.2 | exact K1.2.2.2.2 | assumption) (hb 2 (by decide)) ?_
  refine rk_i2d dL_law_1055 ?_
  refine rk_ldc2d qL_105 dL_law_1056 ?_
  refine rk_dmul dL_law_1059 (f_nan (f_law _)) ?_
  refine rk_aload_n dL_law_1060 rfl ?_
  refine rk_csG (con1) cL_142 dL_law_1061 rfl lL_rescale (Nat.le_of_ble_eq_true rfl) (Nat.le_of_ble_eq_true rfl) hu.1 hu.2 ?_
  intro r1 h1 p1
  obtain ⟨rfl, C1, f1, K1, hE⟩ := K.callL p1
  refine rk_nxv ?_
  refine rk_istore dL_law_1064 (Nat.le_of_ble_eq_true rfl) ?_
  refine rk_lv [some (.ref sb), some (.ref C.a), some (.ref (A 0)), some (.ref lo), some (.ref dq), some (.int i), some (.int (nI res.1)), none, none] ⟨rfl, rfl, rfl, rfl, rfl, rfl, rfl, trivial⟩ ?_
  refine rk_aload_n dL_law_1066 rfl ?_
  refine rk_aload_n dL_law_1067 rfl ?_
  refine rk_iload dL_law_1068 rfl ?_
  refine rk_iconst (v := 1) dL_law_1070 (by decide) ?_
  refine rk_iadd dL_law_1071 ?_
  refine rk_sald dL_law_1072 (by first | exact K.2.2.2.2 | exact K1.2.2.2.2 | assumption) (hb 1 (by decide)) ?_
  refine rk_aload_n dL_law_1073 rfl ?_
  refine rk_iload dL_law_1074 rfl ?_
  refine rk_iconst (v := 2) dL_law_1076 (by decide) ?_
  refine rk_iadd dL_law_1077 ?_
  refine rk_sald dL_law_1078 (by first | exact K.2.2.2.2 | exact K1.2.2.2.2 | assumption) (hb 2 (by decide)) ?_
  refine rk_i2d dL_law_1079 ?_
  refine rk_ldc2d qL_105 dL_law_1080 ?_
  refine rk_dmul dL_law_1083 (f_nan (f_law _)) ?_
  refine rk_cvG (con2 h1 K1.1.2.2.1) cL_145 dL_law_1084 rfl lR_rescale (Nat.le_of_ble_eq_true rfl) (Nat.le_of_ble_eq_true rfl) hu.1 hu.2 ((congrFun K1.1.2.2.1 _).trans k.m) ?_
  intro r2 h2 p2
  obtain ⟨w, X2, rfl, rfl, e3, e4, K2⟩ := K1.refL hE hI (by decide) ok2 p2
  refine rk_nxv ?_
  refine rk_istore dL_law_1087 (Nat.le_of_ble_eq_true rfl) ?_
  refine rk_lv [some (.ref sb), some (.ref C.a), some (.ref (A 0)), some (.ref lo), some (.ref dq), some (.int i), some (.int (nI res.1)), some (.int w), none] ⟨rfl, rfl, rfl, rfl, rfl, rfl, rfl, rfl, trivial⟩ ?_
  refine rk_aload_n dL_law_1089 rfl ?_
  refine rk_cvV (c_R_thrown h1 A X2 k) cL_102 dL_law_1090 rfl lR_thrown (Nat.le_of_ble_eq_true rfl) (Nat.le_of_ble_eq_true rfl) hu.1 hu.2 k.m ?_
  refine rk_iload dL_law_1093 rfl ?_
  refine rk_icmp_eq 1100 dL_law_1095 (by decide) (fun q_1095 => ?_) (fun q_1095 => (by exact absurd e3 q_1095))
  refine rk_iload dL_law_1100 rfl ?_
  refine rk_if_ne 1117 dL_law_1102 (by decide) (fun q_1102 => ?_) (fun q_1102 => ?_)
  · refine rk_goto 1633 dL_law_1117 (by decide) ?_
    refine rk_lv [some (.ref sb), some (.ref C.a), some (.ref (A 0)), some (.ref lo), some (.ref dq), some (.int i), none, none, none] ⟨rfl, rfl, rfl, rfl, rfl, rfl, trivial⟩ ?_
    exact nx _ ⟨_, _, _, _, _, _, K2⟩
  · refine rk_aload_n dL_law_1105 rfl ?_
    refine rk_iconst (v := 0) dL_law_1106 (by decide) ?_
    refine rk_lald dL_law_1107 (by first | exact K2.1.2.2.1 | assumption) (by first | exact vp00 | assumption) ?_
    refine rk_iload dL_law_1108 rfl ?_
    refine rk_i2l dL_law_1110 ?_
    refine rk_lcmp dL_law_1111 ?_
    refine rk_if_eq 1117 dL_law_1112 (by decide) (fun q_1112 => ?_) (fun q_1112 => (by exact absurd (lw_cmp (e4 q_1102)) q_1112))
    refine rk_goto 1633 dL_law_1117 (by decide) ?_
    refine rk_lv [some (.ref sb), some (.ref C.a), some (.ref (A 0)), some (.ref lo), some (.ref dq), some (.int i), none, none, none] ⟨rfl, rfl, rfl, rfl, rfl, rfl, trivial⟩ ?_
    exact nx _ ⟨_, _, _, _, _, _, K2⟩
theorem lw_output {A : Nat → Nat} {lo dq sb L ca : Nat} {xs : Nat → Int32} {b h : rk_H} {C : cT} {X : rX} {s : aS} {f : Nat → Int64} {g : Nat → UInt64} (K : lwK A lo dq sb L ca xs b h C X s f g) (i : Int32) (hb : ∀ j : Nat, j < 6 → vp_in (i + nI j) L) {u1 u2 : Nat} (hu : u1 + 9 ≤ 601024 ∧ u2 + 186 ≤ 7293034) (nx : ∀ h1 : rk_H, lwAt A lo dq sb L ca xs h1 → rk_Run mL_law lwB lwP 1633 (lwV A lo dq sb ca i) [] h1 (u1 + 9, u2 + 186)) : rk_Run mL_law lwB lwP 1120 (lwV A lo dq sb ca i) [] h (u1, u2) := by
  obtain ⟨K, ok, kX⟩ := K
  obtain rfl := K.1.1
  have k := K.1.2.1
  have con1 := lk_output C s.n h K.2.1.1.1.1 (opOutput s (xs (i + 1).toNatClampNeg)) oi_output (xs (i + 1).toNatClampNeg) (c_T_output C s (xs (i + 1).toNatClampNeg) h K.2.1.1 ok) lo f K.2.2.1 (fun q => (K.2.1.2 _ q).2.1 rfl)
  have con2 : ∀ h1 : rk_H, h1 = rv h1 A X → rk_Con mR_output (1, 14, 0, 0) [.ref (A 0), .int (xs (i + 1).toNatClampNeg)] h1 (rPo h1 A (some (.int 0)) (opOutput s (xs (i + 1).toNatClampNeg))) := fun h1 e => lw_cast e (c_R_output h1 A X s k kX ok (xs (i + 1).toNatClampNeg))
  have ok2 := ok.output (xs (i + 1).toNatClampNeg)
  have hI : oInt (opOutput s (xs (i + 1).toNatClampNeg)) 1 := oi_output
  generalize (opOutput s (xs (i + 1).toNatClampNeg)) = res at con1 con2 ok2 hI
  refine rk_aload_n dL_law_1120 rfl ?_
  refine rk_aload_n dL_law_1121 rfl ?_
  refine rk_iload dL_law_1122 rfl ?_
  refine rk_iconst (v := 1) dL_law_1124 (by decide) ?_
  refine rk_iadd dL_law_1125 ?_
  refine rk_sald dL_law_1126 (by first | exact K.2.2.2.2 | exact K1.2.2.2.2 | assumption) (hb 1 (by decide)) ?_
  refine rk_aload_n dL_law_1127 rfl ?_
  refine rk_csG (con1) cL_146 dL_law_1128 rfl lL_output (Nat.le_of_ble_eq_true rfl) (Nat.le_of_ble_eq_true rfl) hu.1 hu.2 ?_
  intro r1 h1 p1
  obtain ⟨rfl, C1, f1, K1, hE⟩ := K.callL p1
  refine rk_nxv ?_
  refine rk_istore dL_law_1131 (Nat.le_of_ble_eq_true rfl) ?_
  refine rk_lv [some (.ref sb), some (.ref C.a), some (.ref (A 0)), some (.ref lo), some (.ref dq), some (.int i), some (.int (nI res.1)), none, none] ⟨rfl, rfl, rfl, rfl, rfl, rfl, rfl, trivial⟩ ?_
  refine rk_aload_n dL_law_1133 rfl ?_
  refine rk_aload_n dL_law_1134 rfl ?_
  refine rk_iload dL_law_1135 rfl ?_
  refine rk_iconst (v := 1) dL_law_1137 (by decide) ?_
  refine rk_iadd dL_law_1138 ?_
  refine rk_sald dL_law_1139 (by first | exact K.2.2.2.2 | exact K1.2.2.2.2 | assumption) (hb 1 (by decide)) ?_
  refine rk_cvG (con2 h1 K1.1.2.2.1) cL_149 dL_law_1140 rfl lR_output (Nat.le_of_ble_eq_true rfl) (Nat.le_of_ble_eq_true rfl) hu.1 hu.2 ((congrFun K1.1.2.2.1 _).trans k.m) ?_
  intro r2 h2 p2
  obtain ⟨w, X2, rfl, rfl, e3, e4, K2⟩ := K1.refL hE hI (by decide) ok2 p2
  refine rk_nxv ?_
  refine rk_istore dL_law_1143 (Nat.le_of_ble_eq_true rfl) ?_
  refine rk_lv [some (.ref sb), some (.ref C.a), some (.ref (A 0)), some (.ref lo), some (.ref dq), some (.int i), some (.int (nI res.1)), some (.int w), none] ⟨rfl, rfl, rfl, rfl, rfl, rfl, rfl, rfl, trivial⟩ ?_
  refine rk_aload_n dL_law_1145 rfl ?_
  refine rk_cvV (c_R_thrown h1 A X2 k) cL_102 dL_law_1146 rfl lR_thrown (Nat.le_of_ble_eq_true rfl) (Nat.le_of_ble_eq_true rfl) hu.1 hu.2 k.m ?_
  refine rk_iload dL_law_1149 rfl ?_
  refine rk_icmp_eq 1156 dL_law_1151 (by decide) (fun q_1151 => ?_) (fun q_1151 => (by exact absurd e3 q_1151))
  refine rk_iload dL_law_1156 rfl ?_
  refine rk_if_ne 1173 dL_law_1158 (by decide) (fun q_1158 => ?_) (fun q_1158 => ?_)
  · refine rk_goto 1633 dL_law_1173 (by decide) ?_
    refine rk_lv [some (.ref sb), some (.ref C.a), some (.ref (A 0)), some (.ref lo), some (.ref dq), some (.int i), none, none, none] ⟨rfl, rfl, rfl, rfl, rfl, rfl, trivial⟩ ?_
    exact nx _ ⟨_, _, _, _, _, _, K2⟩
  · refine rk_aload_n dL_law_1161 rfl ?_
    refine rk_iconst (v := 0) dL_law_1162 (by decide) ?_
    refine rk_lald dL_law_1163 (by first | exact K2.1.2.2.1 | assumption) (by first | exact vp00 | assumption) ?_
    refine rk_iload dL_law_1164 rfl ?_
    refine rk_i2l dL_law_1166 ?_
    refine rk_lcmp dL_law_1167 ?_
    refine rk_if_eq 1173 dL_law_1168 (by decide) (fun q_1168 => ?_) (fun q_1168 => (by exact absurd (lw_cmp (e4 q_1158)) q_1168))
    refine rk_goto 1633 dL_law_1173 (by decide) ?_
    refine rk_lv [some (.ref sb), some (.ref C.a), some (.ref (A 0)), some (.ref lo), some (.ref dq), some (.int i), none, none, none] ⟨rfl, rfl, rfl, rfl, rfl, rfl, trivial⟩ ?_
    exact nx _ ⟨_, _, _, _, _, _, K2⟩
theorem lw_compile {A : Nat → Nat} {lo dq sb L ca : Nat} {xs : Nat → Int32} {b h : rk_H} {C : cT} {X : rX} {s : aS} {f : Nat → Int64} {g : Nat → UInt64} (K : lwK A lo dq sb L ca xs b h C X s f g) (i : Int32) (hb : ∀ j : Nat, j < 6 → vp_in (i + nI j) L) {u1 u2 : Nat} (hu : u1 + 9 ≤ 601024 ∧ u2 + 186 ≤ 7293034) (nx : ∀ h1 : rk_H, lwAt A lo dq sb L ca xs h1 → rk_Run mL_law lwB lwP 1633 (lwV A lo dq sb ca i) [] h1 (u1 + 9, u2 + 186)) : rk_Run mL_law lwB lwP 1176 (lwV A lo dq sb ca i) [] h (u1, u2) := by
  obtain ⟨K, ok, kX⟩ := K
  obtain rfl := K.1.1
  have k := K.1.2.1
  have con1 := lk_compile C s.n h K.2.1.1.1.1 (opCompile s) oi_compile  (c_T_compile C s  h K.2.1.1 ok) lo f K.2.2.1 (fun q => (K.2.1.2 _ q).2.1 rfl)
  have con2 : ∀ h1 : rk_H, h1 = rv h1 A X → rk_Con mR_compile (3, 48, 0, 0) [.ref (A 0)] h1 (rPo h1 A (some (.int 0)) (opCompile s)) := fun h1 e => lw_cast e (c_R_compile h1 A X s k kX ok )
  have ok2 := ok.compile 
  have hI : oInt (opCompile s) 1 := oi_compile
  generalize (opCompile s) = res at con1 con2 ok2 hI
  refine rk_aload_n dL_law_1176 rfl ?_
  refine rk_aload_n dL_law_1177 rfl ?_
  refine rk_csG (con1) cL_150 dL_law_1178 rfl lL_compile (Nat.le_of_ble_eq_true rfl) (Nat.le_of_ble_eq_true rfl) hu.1 hu.2 ?_
  intro r1 h1 p1
  obtain ⟨rfl, C1, f1, K1, hE⟩ := K.callL p1
  refine rk_nxv ?_
  refine rk_istore dL_law_1181 (Nat.le_of_ble_eq_true rfl) ?_
  refine rk_lv [some (.ref sb), some (.ref C.a), some (.ref (A 0)), some (.ref lo), some (.ref dq), some (.int i), some (.int (nI res.1)), none, none] ⟨rfl, rfl, rfl, rfl, rfl, rfl, rfl, trivial⟩ ?_
  refine rk_aload_n dL_law_1183 rfl ?_
  refine rk_cvG (con2 h1 K1.1.2.2.1) cL_153 dL_law_1184 rfl lR_compile (Nat.le_of_ble_eq_true rfl) (Nat.le_of_ble_eq_true rfl) hu.1 hu.2 ((congrFun K1.1.2.2.1 _).trans k.m) ?_
  intro r2 h2 p2
  obtain ⟨w, X2, rfl, rfl, e3, e4, K2⟩ := K1.refL hE hI (by decide) ok2 p2
  refine rk_nxv ?_
  refine rk_istore dL_law_1187 (Nat.le_of_ble_eq_true rfl) ?_
  refine rk_lv [some (.ref sb), some (.ref C.a), some (.ref (A 0)), some (.ref lo), some (.ref dq), some (.int i), some (.int (nI res.1)), some (.int w), none] ⟨rfl, rfl, rfl, rfl, rfl, rfl, rfl, rfl, trivial⟩ ?_
  refine rk_aload_n dL_law_1189 rfl ?_
  refine rk_cvV (c_R_thrown h1 A X2 k) cL_102 dL_law_1190 rfl lR_thrown (Nat.le_of_ble_eq_true rfl) (Nat.le_of_ble_eq_true rfl) hu.1 hu.2 k.m ?_
  refine rk_iload dL_law_1193 rfl ?_
  refine rk_icmp_eq 1200 dL_law_1195 (by decide) (fun q_1195 => ?_) (fun q_1195 => (by exact absurd e3 q_1195))
  refine rk_iload dL_law_1200 rfl ?_
  refine rk_if_ne 1217 dL_law_1202 (by decide) (fun q_1202 => ?_) (fun q_1202 => ?_)
  · refine rk_goto 1633 dL_law_1217 (by decide) ?_
    refine rk_lv [some (.ref sb), some (.ref C.a), some (.ref (A 0)), some (.ref lo), some (.ref dq), some (.int i), none, none, none] ⟨rfl, rfl, rfl, rfl, rfl, rfl, trivial⟩ ?_
    exact nx _ ⟨_, _, _, _, _, _, K2⟩
  · refine rk_aload_n dL_law_1205 rfl ?_
    refine rk_iconst (v := 0) dL_law_1206 (by decide) ?_
    refine rk_lald dL_law_1207 (by first | exact K2.1.2.2.1 | assumption) (by first | exact vp00 | assumption) ?_
    refine rk_iload dL_law_1208 rfl ?_
    refine rk_i2l dL_law_1210 ?_
    refine rk_lcmp dL_law_1211 ?_
    refine rk_if_eq 1217 dL_law_1212 (by decide) (fun q_1212 => ?_) (fun q_1212 => (by exact absurd (lw_cmp (e4 q_1202)) q_1212))
    refine rk_goto 1633 dL_law_1217 (by decide) ?_
    refine rk_lv [some (.ref sb), some (.ref C.a), some (.ref (A 0)), some (.ref lo), some (.ref dq), some (.int i), none, none, none] ⟨rfl, rfl, rfl, rfl, rfl, rfl, trivial⟩ ?_
    exact nx _ ⟨_, _, _, _, _, _, K2⟩
theorem lw_feed {A : Nat → Nat} {lo dq sb L ca : Nat} {xs : Nat → Int32} {b h : rk_H} {C : cT} {X : rX} {s : aS} {f : Nat → Int64} {g : Nat → UInt64} (K : lwK A lo dq sb L ca xs b h C X s f g) (i : Int32) (hb : ∀ j : Nat, j < 6 → vp_in (i + nI j) L) {u1 u2 : Nat} (hu : u1 + 9 ≤ 601024 ∧ u2 + 186 ≤ 7293034) (nx : ∀ h1 : rk_H, lwAt A lo dq sb L ca xs h1 → rk_Run mL_law lwB lwP 1633 (lwV A lo dq sb ca i) [] h1 (u1 + 9, u2 + 186)) : rk_Run mL_law lwB lwP 1220 (lwV A lo dq sb ca i) [] h (u1, u2) := by
  obtain ⟨K, ok, kX⟩ := K
  obtain rfl := K.1.1
  have k := K.1.2.1
  have con1 := lk_feed C s.n h K.2.1.1.1.1 (opFeed s (xs (i + 1).toNatClampNeg) (xs (i + 2).toNatClampNeg) ((((xs (i + 3).toNatClampNeg).toInt64 <<< ((32 : Int32).toInt64 &&& 63)) ||| ((xs (i + 4).toNatClampNeg).toInt64 &&& 4294967295)))) oi_feed (xs (i + 1).toNatClampNeg) (xs (i + 2).toNatClampNeg) ((((xs (i + 3).toNatClampNeg).toInt64 <<< ((32 : Int32).toInt64 &&& 63)) ||| ((xs (i + 4).toNatClampNeg).toInt64 &&& 4294967295))) (c_T_feed C s (xs (i + 1).toNatClampNeg) (xs (i + 2).toNatClampNeg) ((((xs (i + 3).toNatClampNeg).toInt64 <<< ((32 : Int32).toInt64 &&& 63)) ||| ((xs (i + 4).toNatClampNeg).toInt64 &&& 4294967295))) h K.2.1.1 ok) lo f K.2.2.1 (fun q => (K.2.1.2 _ q).2.1 rfl)
  have con2 : ∀ h1 : rk_H, h1 = rv h1 A X → rk_Con mR_feed (1, 15, 0, 0) [.ref (A 0), .int (xs (i + 1).toNatClampNeg), .int (xs (i + 2).toNatClampNeg), .long ((((xs (i + 3).toNatClampNeg).toInt64 <<< ((32 : Int32).toInt64 &&& 63)) ||| ((xs (i + 4).toNatClampNeg).toInt64 &&& 4294967295)))] h1 (rPo h1 A (some (.int 0)) (opFeed s (xs (i + 1).toNatClampNeg) (xs (i + 2).toNatClampNeg) ((((xs (i + 3).toNatClampNeg).toInt64 <<< ((32 : Int32).toInt64 &&& 63)) ||| ((xs (i + 4).toNatClampNeg).toInt64 &&& 4294967295))))) := fun h1 e => lw_cast e (c_R_feed h1 A X s k kX ok (xs (i + 1).toNatClampNeg) (xs (i + 2).toNatClampNeg) ((((xs (i + 3).toNatClampNeg).toInt64 <<< ((32 : Int32).toInt64 &&& 63)) ||| ((xs (i + 4).toNatClampNeg).toInt64 &&& 4294967295))))
  have ok2 := ok.feed (xs (i + 1).toNatClampNeg) (xs (i + 2).toNatClampNeg) ((((xs (i + 3).toNatClampNeg).toInt64 <<< ((32 : Int32).toInt64 &&& 63)) ||| ((xs (i + 4).toNatClampNeg).toInt64 &&& 4294967295)))
  have hI : oInt (opFeed s (xs (i + 1).toNatClampNeg) (xs (i + 2).toNatClampNeg) ((((xs (i + 3).toNatClampNeg).toInt64 <<< ((32 : Int32).toInt64 &&& 63)) ||| ((xs (i + 4).toNatClampNeg).toInt64 &&& 4294967295)))) 1 := oi_feed
  generalize (opFeed s (xs (i + 1).toNatClampNeg) (xs (i + 2).toNatClampNeg) ((((xs (i + 3).toNatClampNeg).toInt64 <<< ((32 : Int32).toInt64 &&& 63)) ||| ((xs (i + 4).toNatClampNeg).toInt64 &&& 4294967295)))) = res at con1 con2 ok2 hI
  refine rk_aload_n dL_law_1220 rfl ?_
  refine rk_aload_n dL_law_1221 rfl ?_
  refine rk_iload dL_law_1222 rfl ?_
  refine rk_iconst (v := 1) dL_law_1224 (by decide) ?_
  refine rk_iadd dL_law_1225 ?_
  refine rk_sald dL_law_1226 (by first | exact K.2.2.2.2 | exact K1.2.2.2.2 | assumption) (hb 1 (by decide)) ?_
  refine rk_aload_n dL_law_1227 rfl ?_
  refine rk_iload dL_law_1228 rfl ?_
  refine rk_iconst (v := 2) dL_law_1230 (by decide) ?_
  refine rk_iadd dL_law_1231 ?_
  refine rk_sald dL_law_1232 (by first | exact K.2.2.2.2 | exact K1.2.2.2.2 | assumption) (hb 2 (by decide)) ?_
  refine rk_aload_n dL_law_1233 rfl ?_
  refine rk_iload dL_law_1234 rfl ?_
  refine rk_iconst (v := 3) dL_law_1236 (by decide) ?_
  refine rk_iadd dL_law_1237 ?_
  refine rk_sald dL_law_1238 (by first | exact K.2.2.2.2 | exact K1.2.2.2.2 | assumption) (hb 3 (by decide)) ?_
  refine rk_i2l dL_law_1239 ?_
  refine rk_bipush (v := 32) dL_law_1240 (by decide) ?_
  refine rk_lshl dL_law_1242 ?_
  refine rk_aload_n dL_law_1243 rfl ?_
  refine rk_iload dL_law_1244 rfl ?_
  refine rk_iconst (v := 4) dL_law_1246 (by decide) ?_
  refine rk_iadd dL_law_1247 ?_
  refine rk_sald dL_law_1248 (by first | exact K.2.2.2.2 | exact K1.2.2.2.2 | assumption) (hb 4 (by decide)) ?_
  refine rk_i2l dL_law_1249 ?_
  refine rk_ldc2 qL_94 dL_law_1250 ?_
  refine rk_land dL_law_1253 ?_
  refine rk_lor dL_law_1254 ?_
  refine rk_aload_n dL_law_1255 rfl ?_
  refine rk_csG (con1) cL_154 dL_law_1256 rfl lL_feed (Nat.le_of_ble_eq_true rfl) (Nat.le_of_ble_eq_true rfl) hu.1 hu.2 ?_
  intro r1 h1 p1
  obtain ⟨rfl, C1, f1, K1, hE⟩ := K.callL p1
  refine rk_nxv ?_
  refine rk_istore dL_law_1259 (Nat.le_of_ble_eq_true rfl) ?_
  refine rk_lv [some (.ref sb), some (.ref C.a), some (.ref (A 0)), some (.ref lo), some (.ref dq), some (.int i), some (.int (nI res.1)), none, none] ⟨rfl, rfl, rfl, rfl, rfl, rfl, rfl, trivial⟩ ?_
  refine rk_aload_n dL_law_1261 rfl ?_
  refine rk_aload_n dL_law_1262 rfl ?_
  refine rk_iload dL_law_1263 rfl ?_
  refine rk_iconst (v := 1) dL_law_1265 (by decide) ?_
  refine rk_iadd dL_law_1266 ?_
  refine rk_sald dL_law_1267 (by first | exact K.2.2.2.2 | exact K1.2.2.2.2 | assumption) (hb 1 (by decide)) ?_
  refine rk_aload_n dL_law_1268 rfl ?_
  refine rk_iload dL_law_1269 rfl ?_
  refine rk_iconst (v := 2) dL_law_1271 (by decide) ?_
  refine rk_iadd dL_law_1272 ?_
  refine rk_sald dL_law_1273 (by first | exact K.2.2.2.2 | exact K1.2.2.2.2 | assumption) (hb 2 (by decide)) ?_
  refine rk_aload_n dL_law_1274 rfl ?_
  refine rk_iload dL_law_1275 rfl ?_
  refine rk_iconst (v := 3) dL_law_1277 (by decide) ?_
  refine rk_iadd dL_law_1278 ?_
  refine rk_sald dL_law_1279 (by first | exact K.2.2.2.2 | exact K1.2.2.2.2 | assumption) (hb 3 (by decide)) ?_
  refine rk_i2l dL_law_1280 ?_
  refine rk_bipush (v := 32) dL_law_1281 (by decide) ?_
  refine rk_lshl dL_law_1283 ?_
  refine rk_aload_n dL_law_1284 rfl ?_
  refine rk_iload dL_law_1285 rfl ?_
  refine rk_iconst (v := 4) dL_law_1287 (by decide) ?_
  refine rk_iadd dL_law_1288 ?_
  refine rk_sald dL_law_1289 (by first | exact K.2.2.2.2 | exact K1.2.2.2.2 | assumption) (hb 4 (by decide)) ?_
  refine rk_i2l dL_law_1290 ?_
  refine rk_ldc2 qL_94 dL_law_1291 ?_
  refine rk_land dL_law_1294 ?_
  refine rk_lor dL_law_1295 ?_
  refine rk_cvG (con2 h1 K1.1.2.2.1) cL_157 dL_law_1296 rfl lR_feed (Nat.le_of_ble_eq_true rfl) (Nat.le_of_ble_eq_true rfl) hu.1 hu.2 ((congrFun K1.1.2.2.1 _).trans k.m) ?_
  intro r2 h2 p2
  obtain ⟨w, X2, rfl, rfl, e3, e4, K2⟩ := K1.refL hE hI (by decide) ok2 p2
  refine rk_nxv ?_
  refine rk_istore dL_law_1299 (Nat.le_of_ble_eq_true rfl) ?_
  refine rk_lv [some (.ref sb), some (.ref C.a), some (.ref (A 0)), some (.ref lo), some (.ref dq), some (.int i), some (.int (nI res.1)), some (.int w), none] ⟨rfl, rfl, rfl, rfl, rfl, rfl, rfl, rfl, trivial⟩ ?_
  refine rk_aload_n dL_law_1301 rfl ?_
  refine rk_cvV (c_R_thrown h1 A X2 k) cL_102 dL_law_1302 rfl lR_thrown (Nat.le_of_ble_eq_true rfl) (Nat.le_of_ble_eq_true rfl) hu.1 hu.2 k.m ?_
  refine rk_iload dL_law_1305 rfl ?_
  refine rk_icmp_eq 1312 dL_law_1307 (by decide) (fun q_1307 => ?_) (fun q_1307 => (by exact absurd e3 q_1307))
  refine rk_iload dL_law_1312 rfl ?_
  refine rk_if_ne 1329 dL_law_1314 (by decide) (fun q_1314 => ?_) (fun q_1314 => ?_)
  · refine rk_goto 1633 dL_law_1329 (by decide) ?_
    refine rk_lv [some (.ref sb), some (.ref C.a), some (.ref (A 0)), some (.ref lo), some (.ref dq), some (.int i), none, none, none] ⟨rfl, rfl, rfl, rfl, rfl, rfl, trivial⟩ ?_
    exact nx _ ⟨_, _, _, _, _, _, K2⟩
  · refine rk_aload_n dL_law_1317 rfl ?_
    refine rk_iconst (v := 0) dL_law_1318 (by decide) ?_
    refine rk_lald dL_law_1319 (by first | exact K2.1.2.2.1 | assumption) (by first | exact vp00 | assumption) ?_
    refine rk_iload dL_law_1320 rfl ?_
    refine rk_i2l dL_law_1322 ?_
    refine rk_lcmp dL_law_1323 ?_
    refine rk_if_eq 1329 dL_law_1324 (by decide) (fun q_1324 => ?_) (fun q_1324 => (by exact absurd (lw_cmp (e4 q_1314)) q_1324))
    refine rk_goto 1633 dL_law_1329 (by decide) ?_
    refine rk_lv [some (.ref sb), some (.ref C.a), some (.ref (A 0)), some (.ref lo), some (.ref dq), some (.int i), none, none, none] ⟨rfl, rfl, rfl, rfl, rfl, rfl, trivial⟩ ?_
    exact nx _ ⟨_, _, _, _, _, _, K2⟩
theorem lw_run {A : Nat → Nat} {lo dq sb L ca : Nat} {xs : Nat → Int32} {b h : rk_H} {C : cT} {X : rX} {s : aS} {f : Nat → Int64} {g : Nat → UInt64} (K : lwK A lo dq sb L ca xs b h C X s f g) (i : Int32) (hb : ∀ j : Nat, j < 6 → vp_in (i + nI j) L) {u1 u2 : Nat} (hu : u1 + 9 ≤ 601024 ∧ u2 + 186 ≤ 7293034) (nx : ∀ h1 : rk_H, lwAt A lo dq sb L ca xs h1 → rk_Run mL_law lwB lwP 1633 (lwV A lo dq sb ca i) [] h1 (u1 + 9, u2 + 186)) : rk_Run mL_law lwB lwP 1332 (lwV A lo dq sb ca i) [] h (u1, u2) := by
  obtain ⟨K, ok, kX⟩ := K
  obtain rfl := K.1.1
  have k := K.1.2.1
  have con1 := lk_run C s.n h K.2.1.1.1.1 (opRun s (xs (i + 1).toNatClampNeg)) oi_run (xs (i + 1).toNatClampNeg) (c_T_run C s (xs (i + 1).toNatClampNeg) h K.2.1.1 ok) lo f K.2.2.1 (fun q => (K.2.1.2 _ q).2.1 rfl)
  have con2 : ∀ h1 : rk_H, h1 = rv h1 A X → rk_Con mR_run (5, 94, 0, 0) [.ref (A 0), .int (xs (i + 1).toNatClampNeg)] h1 (rPo h1 A (some (.int 0)) (opRun s (xs (i + 1).toNatClampNeg))) := fun h1 e => lw_cast e (c_R_run h1 A X s k kX ok (xs (i + 1).toNatClampNeg))
  have ok2 := ok.run (xs (i + 1).toNatClampNeg)
  have hI : oInt (opRun s (xs (i + 1).toNatClampNeg)) 3 := oi_run
  generalize (opRun s (xs (i + 1).toNatClampNeg)) = res at con1 con2 ok2 hI
  refine rk_aload_n dL_law_1332 rfl ?_
  refine rk_aload_n dL_law_1333 rfl ?_
  refine rk_iload dL_law_1334 rfl ?_
  refine rk_iconst (v := 1) dL_law_1336 (by decide) ?_
  refine rk_iadd dL_law_1337 ?_
  refine rk_sald dL_law_1338 (by first | exact K.2.2.2.2 | exact K1.2.2.2.2 | assumption) (hb 1 (by decide)) ?_
  refine rk_aload_n dL_law_1339 rfl ?_
  refine rk_csG (con1) cL_158 dL_law_1340 rfl lL_run (Nat.le_of_ble_eq_true rfl) (Nat.le_of_ble_eq_true rfl) hu.1 hu.2 ?_
  intro r1 h1 p1
  obtain ⟨rfl, C1, f1, K1, hE⟩ := K.callL p1
  refine rk_nxv ?_
  refine rk_istore dL_law_1343 (Nat.le_of_ble_eq_true rfl) ?_
  refine rk_lv [some (.ref sb), some (.ref C.a), some (.ref (A 0)), some (.ref lo), some (.ref dq), some (.int i), some (.int (nI res.1)), none, none] ⟨rfl, rfl, rfl, rfl, rfl, rfl, rfl, trivial⟩ ?_
  refine rk_aload_n dL_law_1345 rfl ?_
  refine rk_aload_n dL_law_1346 rfl ?_
  refine rk_iload dL_law_1347 rfl ?_
  refine rk_iconst (v := 1) dL_law_1349 (by decide) ?_
  refine rk_iadd dL_law_1350 ?_
  refine rk_sald dL_law_1351 (by first | exact K.2.2.2.2 | exact K1.2.2.2.2 | assumption) (hb 1 (by decide)) ?_
  refine rk_cvG (con2 h1 K1.1.2.2.1) cL_160 dL_law_1352 rfl lR_run (Nat.le_of_ble_eq_true rfl) (Nat.le_of_ble_eq_true rfl) hu.1 hu.2 ((congrFun K1.1.2.2.1 _).trans k.m) ?_
  intro r2 h2 p2
  obtain ⟨w, X2, rfl, rfl, e3, e4, K2⟩ := K1.refL hE hI (by decide) ok2 p2
  refine rk_nxv ?_
  refine rk_istore dL_law_1355 (Nat.le_of_ble_eq_true rfl) ?_
  refine rk_lv [some (.ref sb), some (.ref C.a), some (.ref (A 0)), some (.ref lo), some (.ref dq), some (.int i), some (.int (nI res.1)), some (.int w), none] ⟨rfl, rfl, rfl, rfl, rfl, rfl, rfl, rfl, trivial⟩ ?_
  refine rk_aload_n dL_law_1357 rfl ?_
  refine rk_cvV (c_R_thrown h1 A X2 k) cL_102 dL_law_1358 rfl lR_thrown (Nat.le_of_ble_eq_true rfl) (Nat.le_of_ble_eq_true rfl) hu.1 hu.2 k.m ?_
  refine rk_iload dL_law_1361 rfl ?_
  refine rk_icmp_eq 1368 dL_law_1363 (by decide) (fun q_1363 => ?_) (fun q_1363 => (by exact absurd e3 q_1363))
  refine rk_iload dL_law_1368 rfl ?_
  refine rk_if_ne 1385 dL_law_1370 (by decide) (fun q_1370 => ?_) (fun q_1370 => ?_)
  · refine rk_goto 1633 dL_law_1385 (by decide) ?_
    refine rk_lv [some (.ref sb), some (.ref C.a), some (.ref (A 0)), some (.ref lo), some (.ref dq), some (.int i), none, none, none] ⟨rfl, rfl, rfl, rfl, rfl, rfl, trivial⟩ ?_
    exact nx _ ⟨_, _, _, _, _, _, K2⟩
  · refine rk_aload_n dL_law_1373 rfl ?_
    refine rk_iconst (v := 0) dL_law_1374 (by decide) ?_
    refine rk_lald dL_law_1375 (by first | exact K2.1.2.2.1 | assumption) (by first | exact vp00 | assumption) ?_
    refine rk_iload dL_law_1376 rfl ?_
    refine rk_i2l dL_law_1378 ?_
    refine rk_lcmp dL_law_1379 ?_
    refine rk_if_eq 1385 dL_law_1380 (by decide) (fun q_1380 => ?_) (fun q_1380 => (by exact absurd (lw_cmp (e4 q_1370)) q_1380))
    refine rk_goto 1633 dL_law_1385 (by decide) ?_
    refine rk_lv [some (.ref sb), some (.ref C.a), some (.ref (A 0)), some (.ref lo), some (.ref dq), some (.int i), none, none, none] ⟨rfl, rfl, rfl, rfl, rfl, rfl, trivial⟩ ?_
    exact nx _ ⟨_, _, _, _, _, _, K2⟩
theorem lw_arena {A : Nat → Nat} {lo dq sb L ca : Nat} {xs : Nat → Int32} {b h : rk_H} {C : cT} {X : rX} {s : aS} {f : Nat → Int64} {g : Nat → UInt64} (K : lwK A lo dq sb L ca xs b h C X s f g) (i : Int32) (hb : ∀ j : Nat, j < 6 → vp_in (i + nI j) L) {u1 u2 : Nat} (hu : u1 + 9 ≤ 601024 ∧ u2 + 186 ≤ 7293034) (nx : ∀ h1 : rk_H, lwAt A lo dq sb L ca xs h1 → rk_Run mL_law lwB lwP 1633 (lwV A lo dq sb ca i) [] h1 (u1 + 9, u2 + 186)) : rk_Run mL_law lwB lwP 1388 (lwV A lo dq sb ca i) [] h (u1, u2) := by
  obtain ⟨K, ok, kX⟩ := K
  obtain rfl := K.1.1
  have k := K.1.2.1
  have con1 := lk_arena C s.n h K.2.1.1.1.1 (opArena s (xs (i + 1).toNatClampNeg)) oi_arena (xs (i + 1).toNatClampNeg) (c_T_arena C s (xs (i + 1).toNatClampNeg) h K.2.1.1) lo f K.2.2.1 (fun q => (K.2.1.2 _ q).2.1 rfl)
  have con2 : ∀ h1 : rk_H, h1 = rv h1 A X → rk_Con mR_arena (1, 14, 0, 0) [.ref (A 0), .int (xs (i + 1).toNatClampNeg)] h1 (rPo h1 A (some (.int 0)) (opArena s (xs (i + 1).toNatClampNeg))) := fun h1 e => lw_cast e (c_R_arena h1 A X s k kX ok (xs (i + 1).toNatClampNeg))
  have ok2 := ok.arena (xs (i + 1).toNatClampNeg)
  have hI : oInt (opArena s (xs (i + 1).toNatClampNeg)) 1 := oi_arena
  generalize (opArena s (xs (i + 1).toNatClampNeg)) = res at con1 con2 ok2 hI
  refine rk_aload_n dL_law_1388 rfl ?_
  refine rk_aload_n dL_law_1389 rfl ?_
  refine rk_iload dL_law_1390 rfl ?_
  refine rk_iconst (v := 1) dL_law_1392 (by decide) ?_
  refine rk_iadd dL_law_1393 ?_
  refine rk_sald dL_law_1394 (by first | exact K.2.2.2.2 | exact K1.2.2.2.2 | assumption) (hb 1 (by decide)) ?_
  refine rk_aload_n dL_law_1395 rfl ?_
  refine rk_csG (con1) cL_161 dL_law_1396 rfl lL_arena (Nat.le_of_ble_eq_true rfl) (Nat.le_of_ble_eq_true rfl) hu.1 hu.2 ?_
  intro r1 h1 p1
  obtain ⟨rfl, C1, f1, K1, hE⟩ := K.callL p1
  refine rk_nxv ?_
  refine rk_istore dL_law_1399 (Nat.le_of_ble_eq_true rfl) ?_
  refine rk_lv [some (.ref sb), some (.ref C.a), some (.ref (A 0)), some (.ref lo), some (.ref dq), some (.int i), some (.int (nI res.1)), none, none] ⟨rfl, rfl, rfl, rfl, rfl, rfl, rfl, trivial⟩ ?_
  refine rk_aload_n dL_law_1401 rfl ?_
  refine rk_aload_n dL_law_1402 rfl ?_
  refine rk_iload dL_law_1403 rfl ?_
  refine rk_iconst (v := 1) dL_law_1405 (by decide) ?_
  refine rk_iadd dL_law_1406 ?_
  refine rk_sald dL_law_1407 (by first | exact K.2.2.2.2 | exact K1.2.2.2.2 | assumption) (hb 1 (by decide)) ?_
  refine rk_cvG (con2 h1 K1.1.2.2.1) cL_163 dL_law_1408 rfl lR_arena (Nat.le_of_ble_eq_true rfl) (Nat.le_of_ble_eq_true rfl) hu.1 hu.2 ((congrFun K1.1.2.2.1 _).trans k.m) ?_
  intro r2 h2 p2
  obtain ⟨w, X2, rfl, rfl, e3, e4, K2⟩ := K1.refL hE hI (by decide) ok2 p2
  refine rk_nxv ?_
  refine rk_istore dL_law_1411 (Nat.le_of_ble_eq_true rfl) ?_
  refine rk_lv [some (.ref sb), some (.ref C.a), some (.ref (A 0)), some (.ref lo), some (.ref dq), some (.int i), some (.int (nI res.1)), some (.int w), none] ⟨rfl, rfl, rfl, rfl, rfl, rfl, rfl, rfl, trivial⟩ ?_
  refine rk_aload_n dL_law_1413 rfl ?_
  refine rk_cvV (c_R_thrown h1 A X2 k) cL_102 dL_law_1414 rfl lR_thrown (Nat.le_of_ble_eq_true rfl) (Nat.le_of_ble_eq_true rfl) hu.1 hu.2 k.m ?_
  refine rk_iload dL_law_1417 rfl ?_
  refine rk_icmp_eq 1424 dL_law_1419 (by decide) (fun q_1419 => ?_) (fun q_1419 => (by exact absurd e3 q_1419))
  refine rk_iload dL_law_1424 rfl ?_
  refine rk_if_ne 1441 dL_law_1426 (by decide) (fun q_1426 => ?_) (fun q_1426 => ?_)
  · refine rk_goto 1633 dL_law_1441 (by decide) ?_
    refine rk_lv [some (.ref sb), some (.ref C.a), some (.ref (A 0)), some (.ref lo), some (.ref dq), some (.int i), none, none, none] ⟨rfl, rfl, rfl, rfl, rfl, rfl, trivial⟩ ?_
    exact nx _ ⟨_, _, _, _, _, _, K2⟩
  · refine rk_aload_n dL_law_1429 rfl ?_
    refine rk_iconst (v := 0) dL_law_1430 (by decide) ?_
    refine rk_lald dL_law_1431 (by first | exact K2.1.2.2.1 | assumption) (by first | exact vp00 | assumption) ?_
    refine rk_iload dL_law_1432 rfl ?_
    refine rk_i2l dL_law_1434 ?_
    refine rk_lcmp dL_law_1435 ?_
    refine rk_if_eq 1441 dL_law_1436 (by decide) (fun q_1436 => ?_) (fun q_1436 => (by exact absurd (lw_cmp (e4 q_1426)) q_1436))
    refine rk_goto 1633 dL_law_1441 (by decide) ?_
    refine rk_lv [some (.ref sb), some (.ref C.a), some (.ref (A 0)), some (.ref lo), some (.ref dq), some (.int i), none, none, none] ⟨rfl, rfl, rfl, rfl, rfl, rfl, trivial⟩ ?_
    exact nx _ ⟨_, _, _, _, _, _, K2⟩
theorem lw_result {A : Nat → Nat} {lo dq sb L ca : Nat} {xs : Nat → Int32} {b h : rk_H} {C : cT} {X : rX} {s : aS} {f : Nat → Int64} {g : Nat → UInt64} (K : lwK A lo dq sb L ca xs b h C X s f g) (i : Int32) (hb : ∀ j : Nat, j < 6 → vp_in (i + nI j) L) {u1 u2 : Nat} (hu : u1 + 9 ≤ 601024 ∧ u2 + 186 ≤ 7293034) (nx : ∀ h1 : rk_H, lwAt A lo dq sb L ca xs h1 → rk_Run mL_law lwB lwP 1633 (lwV A lo dq sb ca i) [] h1 (u1 + 9, u2 + 186)) : rk_Run mL_law lwB lwP 1444 (lwV A lo dq sb ca i) [] h (u1, u2) := by
  obtain ⟨K, ok, kX⟩ := K
  obtain rfl := K.1.1
  have k := K.1.2.1
  have con1 := lk_result C s.n h K.2.1.1.1.1 (opResult s (xs (i + 1).toNatClampNeg)) oi_result (xs (i + 1).toNatClampNeg) (c_T_result C s (xs (i + 1).toNatClampNeg) h K.2.1.1) dq g K.2.2.2.1 (fun q => (K.2.1.2 _ q).2.2.1 rfl)
  have con2 : ∀ h1 : rk_H, h1 = rv h1 A X → rk_Con mR_result (1, 14, 0, 0) [.ref (A 0), .int (xs (i + 1).toNatClampNeg)] h1 (rPo h1 A (some (.double (FP.i2d 0))) (opResult s (xs (i + 1).toNatClampNeg))) := fun h1 e => lw_cast e (c_R_result h1 A X s k kX ok (xs (i + 1).toNatClampNeg))
  have ok2 := ok.result (xs (i + 1).toNatClampNeg)
  have hI : oDbl (opResult s (xs (i + 1).toNatClampNeg)) 1 := oi_result
  generalize (opResult s (xs (i + 1).toNatClampNeg)) = res at con1 con2 ok2 hI
  refine rk_aload_n dL_law_1444 rfl ?_
  refine rk_aload_n dL_law_1445 rfl ?_
  refine rk_iload dL_law_1446 rfl ?_
  refine rk_iconst (v := 1) dL_law_1448 (by decide) ?_
  refine rk_iadd dL_law_1449 ?_
  refine rk_sald dL_law_1450 (by first | exact K.2.2.2.2 | exact K1.2.2.2.2 | assumption) (hb 1 (by decide)) ?_
  refine rk_aload dL_law_1451 rfl ?_
  refine rk_csG (con1) cL_164 dL_law_1453 rfl lL_result (Nat.le_of_ble_eq_true rfl) (Nat.le_of_ble_eq_true rfl) hu.1 hu.2 ?_
  intro r1 h1 p1
  obtain ⟨rfl, C1, g1, K1, hE⟩ := K.callD p1
  refine rk_nxv ?_
  refine rk_istore dL_law_1456 (Nat.le_of_ble_eq_true rfl) ?_
  refine rk_lv [some (.ref sb), some (.ref C.a), some (.ref (A 0)), some (.ref lo), some (.ref dq), some (.int i), some (.int (nI res.1)), none, none] ⟨rfl, rfl, rfl, rfl, rfl, rfl, rfl, trivial⟩ ?_
  refine rk_aload_n dL_law_1458 rfl ?_
  refine rk_aload_n dL_law_1459 rfl ?_
  refine rk_iload dL_law_1460 rfl ?_
  refine rk_iconst (v := 1) dL_law_1462 (by decide) ?_
  refine rk_iadd dL_law_1463 ?_
  refine rk_sald dL_law_1464 (by first | exact K.2.2.2.2 | exact K1.2.2.2.2 | assumption) (hb 1 (by decide)) ?_
  refine rk_cvG (con2 h1 K1.1.2.2.1) cL_167 dL_law_1465 rfl lR_result (Nat.le_of_ble_eq_true rfl) (Nat.le_of_ble_eq_true rfl) hu.1 hu.2 ((congrFun K1.1.2.2.1 _).trans k.m) ?_
  intro r2 h2 p2
  obtain ⟨w, X2, rfl, rfl, e3, e4, K2⟩ := K1.refD hE hI (by decide) ok2 p2
  refine rk_nxv ?_
  refine rk_dstore dL_law_1468 (Nat.le_of_ble_eq_true rfl) ?_
  refine rk_lv [some (.ref sb), some (.ref C.a), some (.ref (A 0)), some (.ref lo), some (.ref dq), some (.int i), some (.int (nI res.1)), some (.double w), none] ⟨rfl, rfl, rfl, rfl, rfl, rfl, rfl, rfl, trivial⟩ ?_
  refine rk_aload_n dL_law_1470 rfl ?_
  refine rk_cvV (c_R_thrown h1 A X2 k) cL_102 dL_law_1471 rfl lR_thrown (Nat.le_of_ble_eq_true rfl) (Nat.le_of_ble_eq_true rfl) hu.1 hu.2 k.m ?_
  refine rk_iload dL_law_1474 rfl ?_
  refine rk_icmp_eq 1481 dL_law_1476 (by decide) (fun q_1476 => ?_) (fun q_1476 => (by exact absurd e3 q_1476))
  refine rk_iload dL_law_1481 rfl ?_
  refine rk_if_ne 1518 dL_law_1483 (by decide) (fun q_1483 => ?_) (fun q_1483 => ?_)
  · refine rk_goto 1633 dL_law_1518 (by decide) ?_
    refine rk_lv [some (.ref sb), some (.ref C.a), some (.ref (A 0)), some (.ref lo), some (.ref dq), some (.int i), none, none, none] ⟨rfl, rfl, rfl, rfl, rfl, rfl, trivial⟩ ?_
    exact nx _ ⟨_, _, _, _, _, _, K2⟩
  · refine rk_aload dL_law_1486 rfl ?_
    refine rk_iconst (v := 0) dL_law_1488 (by decide) ?_
    refine rk_dald dL_law_1489 (by first | exact K2.1.2.2.2.1 | assumption) (by first | exact vp00 | assumption) ?_
    refine rk_dload dL_law_1490 rfl ?_
    refine rk_dcmp dL_law_1492 ?_
    try rw [show g1 (0 : Int32).toNatClampNeg = w from e4 q_1483]
    refine rk_if_eq 1518 dL_law_1493 (by decide) (fun q_1493 => ?_) (fun q_1493 => ?_)
    · refine rk_goto 1633 dL_law_1518 (by decide) ?_
      refine rk_lv [some (.ref sb), some (.ref C.a), some (.ref (A 0)), some (.ref lo), some (.ref dq), some (.int i), none, none, none] ⟨rfl, rfl, rfl, rfl, rfl, rfl, trivial⟩ ?_
      exact nx _ ⟨_, _, _, _, _, _, K2⟩
    · refine rk_aload dL_law_1496 rfl ?_
      refine rk_iconst (v := 0) dL_law_1498 (by decide) ?_
      refine rk_dald dL_law_1499 (by first | exact K2.1.2.2.2.1 | assumption) (by first | exact vp00 | assumption) ?_
      refine rk_aload dL_law_1500 rfl ?_
      refine rk_iconst (v := 0) dL_law_1502 (by decide) ?_
      refine rk_dald dL_law_1503 (by first | exact K2.1.2.2.2.1 | assumption) (by first | exact vp00 | assumption) ?_
      refine rk_dcmp dL_law_1504 ?_
      try rw [show g1 (0 : Int32).toNatClampNeg = w from e4 q_1483]
      refine rk_if_eq 1516 dL_law_1505 (by decide) (fun q_1505 => (by exact absurd q_1505 q_1493)) (fun q_1505 => ?_)
      refine rk_dload dL_law_1508 rfl ?_
      refine rk_dload dL_law_1510 rfl ?_
      refine rk_dcmp dL_law_1512 ?_
      refine rk_if_ne 1518 dL_law_1513 (by decide) (fun q_1513 => ?_) (fun q_1513 => (by exact absurd q_1513 q_1493))
      refine rk_goto 1633 dL_law_1518 (by decide) ?_
      refine rk_lv [some (.ref sb), some (.ref C.a), some (.ref (A 0)), some (.ref lo), some (.ref dq), some (.int i), none, none, none] ⟨rfl, rfl, rfl, rfl, rfl, rfl, trivial⟩ ?_
      exact nx _ ⟨_, _, _, _, _, _, K2⟩
theorem lw_about {A : Nat → Nat} {lo dq sb L ca : Nat} {xs : Nat → Int32} {b h : rk_H} {C : cT} {X : rX} {s : aS} {f : Nat → Int64} {g : Nat → UInt64} (K : lwK A lo dq sb L ca xs b h C X s f g) (i : Int32) (hb : ∀ j : Nat, j < 6 → vp_in (i + nI j) L) {u1 u2 : Nat} (hu : u1 + 9 ≤ 601024 ∧ u2 + 186 ≤ 7293034) (nx : ∀ h1 : rk_H, lwAt A lo dq sb L ca xs h1 → rk_Run mL_law lwB lwP 1633 (lwV A lo dq sb ca i) [] h1 (u1 + 9, u2 + 186)) : rk_Run mL_law lwB lwP 1521 (lwV A lo dq sb ca i) [] h (u1, u2) := by
  obtain ⟨K, ok, kX⟩ := K
  obtain rfl := K.1.1
  have k := K.1.2.1
  have con1 := lk_about C s.n h K.2.1.1.1.1 (opAbout s (xs (i + 1).toNatClampNeg) (xs (i + 2).toNatClampNeg)) oi_about (xs (i + 1).toNatClampNeg) (xs (i + 2).toNatClampNeg) (c_T_about C s (xs (i + 1).toNatClampNeg) (xs (i + 2).toNatClampNeg) h K.2.1.1 ok) lo f K.2.2.1 (fun q => (K.2.1.2 _ q).2.1 rfl)
  have con2 : ∀ h1 : rk_H, h1 = rv h1 A X → rk_Con mR_about (1, 14, 0, 0) [.ref (A 0), .int (xs (i + 1).toNatClampNeg), .int (xs (i + 2).toNatClampNeg)] h1 (rPo h1 A (some (.int 0)) (opAbout s (xs (i + 1).toNatClampNeg) (xs (i + 2).toNatClampNeg))) := fun h1 e => lw_cast e (c_R_about h1 A X s k kX ok (xs (i + 1).toNatClampNeg) (xs (i + 2).toNatClampNeg))
  have ok2 := ok.about (xs (i + 1).toNatClampNeg) (xs (i + 2).toNatClampNeg)
  have hI : oInt (opAbout s (xs (i + 1).toNatClampNeg) (xs (i + 2).toNatClampNeg)) 3 := oi_about
  generalize (opAbout s (xs (i + 1).toNatClampNeg) (xs (i + 2).toNatClampNeg)) = res at con1 con2 ok2 hI
  refine rk_aload_n dL_law_1521 rfl ?_
  refine rk_aload_n dL_law_1522 rfl ?_
  refine rk_iload dL_law_1523 rfl ?_
  refine rk_iconst (v := 1) dL_law_1525 (by decide) ?_
  refine rk_iadd dL_law_1526 ?_
  refine rk_sald dL_law_1527 (by first | exact K.2.2.2.2 | exact K1.2.2.2.2 | assumption) (hb 1 (by decide)) ?_
  refine rk_aload_n dL_law_1528 rfl ?_
  refine rk_iload dL_law_1529 rfl ?_
  refine rk_iconst (v := 2) dL_law_1531 (by decide) ?_
  refine rk_iadd dL_law_1532 ?_
  refine rk_sald dL_law_1533 (by first | exact K.2.2.2.2 | exact K1.2.2.2.2 | assumption) (hb 2 (by decide)) ?_
  refine rk_aload_n dL_law_1534 rfl ?_
  refine rk_csG (con1) cL_168 dL_law_1535 rfl lL_about (Nat.le_of_ble_eq_true rfl) (Nat.le_of_ble_eq_true rfl) hu.1 hu.2 ?_
  intro r1 h1 p1
  obtain ⟨rfl, C1, f1, K1, hE⟩ := K.callL p1
  refine rk_nxv ?_
  refine rk_istore dL_law_1538 (Nat.le_of_ble_eq_true rfl) ?_
  refine rk_lv [some (.ref sb), some (.ref C.a), some (.ref (A 0)), some (.ref lo), some (.ref dq), some (.int i), some (.int (nI res.1)), none, none] ⟨rfl, rfl, rfl, rfl, rfl, rfl, rfl, trivial⟩ ?_
  refine rk_aload_n dL_law_1540 rfl ?_
  refine rk_aload_n dL_law_1541 rfl ?_
  refine rk_iload dL_law_1542 rfl ?_
  refine rk_iconst (v := 1) dL_law_1544 (by decide) ?_
  refine rk_iadd dL_law_1545 ?_
  refine rk_sald dL_law_1546 (by first | exact K.2.2.2.2 | exact K1.2.2.2.2 | assumption) (hb 1 (by decide)) ?_
  refine rk_aload_n dL_law_1547 rfl ?_
  refine rk_iload dL_law_1548 rfl ?_
  refine rk_iconst (v := 2) dL_law_1550 (by decide) ?_
  refine rk_iadd dL_law_1551 ?_
  refine rk_sald dL_law_1552 (by first | exact K.2.2.2.2 | exact K1.2.2.2.2 | assumption) (hb 2 (by decide)) ?_
  refine rk_cvG (con2 h1 K1.1.2.2.1) cL_170 dL_law_1553 rfl lR_about (Nat.le_of_ble_eq_true rfl) (Nat.le_of_ble_eq_true rfl) hu.1 hu.2 ((congrFun K1.1.2.2.1 _).trans k.m) ?_
  intro r2 h2 p2
  obtain ⟨w, X2, rfl, rfl, e3, e4, K2⟩ := K1.refL hE hI (by decide) ok2 p2
  refine rk_nxv ?_
  refine rk_istore dL_law_1556 (Nat.le_of_ble_eq_true rfl) ?_
  refine rk_lv [some (.ref sb), some (.ref C.a), some (.ref (A 0)), some (.ref lo), some (.ref dq), some (.int i), some (.int (nI res.1)), some (.int w), none] ⟨rfl, rfl, rfl, rfl, rfl, rfl, rfl, rfl, trivial⟩ ?_
  refine rk_aload_n dL_law_1558 rfl ?_
  refine rk_cvV (c_R_thrown h1 A X2 k) cL_102 dL_law_1559 rfl lR_thrown (Nat.le_of_ble_eq_true rfl) (Nat.le_of_ble_eq_true rfl) hu.1 hu.2 k.m ?_
  refine rk_iload dL_law_1562 rfl ?_
  refine rk_icmp_eq 1569 dL_law_1564 (by decide) (fun q_1564 => ?_) (fun q_1564 => (by exact absurd e3 q_1564))
  refine rk_iload dL_law_1569 rfl ?_
  refine rk_if_ne 1586 dL_law_1571 (by decide) (fun q_1571 => ?_) (fun q_1571 => ?_)
  · refine rk_goto 1633 dL_law_1586 (by decide) ?_
    refine rk_lv [some (.ref sb), some (.ref C.a), some (.ref (A 0)), some (.ref lo), some (.ref dq), some (.int i), none, none, none] ⟨rfl, rfl, rfl, rfl, rfl, rfl, trivial⟩ ?_
    exact nx _ ⟨_, _, _, _, _, _, K2⟩
  · refine rk_aload_n dL_law_1574 rfl ?_
    refine rk_iconst (v := 0) dL_law_1575 (by decide) ?_
    refine rk_lald dL_law_1576 (by first | exact K2.1.2.2.1 | assumption) (by first | exact vp00 | assumption) ?_
    refine rk_iload dL_law_1577 rfl ?_
    refine rk_i2l dL_law_1579 ?_
    refine rk_lcmp dL_law_1580 ?_
    refine rk_if_eq 1586 dL_law_1581 (by decide) (fun q_1581 => ?_) (fun q_1581 => (by exact absurd (lw_cmp (e4 q_1571)) q_1581))
    refine rk_goto 1633 dL_law_1586 (by decide) ?_
    refine rk_lv [some (.ref sb), some (.ref C.a), some (.ref (A 0)), some (.ref lo), some (.ref dq), some (.int i), none, none, none] ⟨rfl, rfl, rfl, rfl, rfl, rfl, trivial⟩ ?_
    exact nx _ ⟨_, _, _, _, _, _, K2⟩
theorem lw_peak {A : Nat → Nat} {lo dq sb L ca : Nat} {xs : Nat → Int32} {b h : rk_H} {C : cT} {X : rX} {s : aS} {f : Nat → Int64} {g : Nat → UInt64} (K : lwK A lo dq sb L ca xs b h C X s f g) (i : Int32) (hb : ∀ j : Nat, j < 6 → vp_in (i + nI j) L) {u1 u2 : Nat} (hu : u1 + 9 ≤ 601024 ∧ u2 + 186 ≤ 7293034) (nx : ∀ h1 : rk_H, lwAt A lo dq sb L ca xs h1 → rk_Run mL_law lwB lwP 1633 (lwV A lo dq sb ca i) [] h1 (u1 + 9, u2 + 186)) : rk_Run mL_law lwB lwP 1589 (lwV A lo dq sb ca i) [] h (u1, u2) := by
  obtain ⟨K, ok, kX⟩ := K
  obtain rfl := K.1.1
  have k := K.1.2.1
  have con1 := lk_peak C s.n h K.2.1.1.1.1 (opPeak s) oi_peak  (c_T_peak C s  h K.2.1.1) lo f K.2.2.1 (fun q => (K.2.1.2 _ q).2.1 rfl)
  have con2 : ∀ h1 : rk_H, h1 = rv h1 A X → rk_Con mR_peak (1, 13, 0, 0) [.ref (A 0)] h1 (rPo h1 A (some (.int 0)) (opPeak s)) := fun h1 e => lw_cast e (c_R_peak h1 A X s k kX ok )
  have ok2 := ok.peak 
  have hI : oInt (opPeak s) 1 := oi_peak
  generalize (opPeak s) = res at con1 con2 ok2 hI
  refine rk_aload_n dL_law_1589 rfl ?_
  refine rk_aload_n dL_law_1590 rfl ?_
  refine rk_csG (con1) cL_171 dL_law_1591 rfl lL_peak (Nat.le_of_ble_eq_true rfl) (Nat.le_of_ble_eq_true rfl) hu.1 hu.2 ?_
  intro r1 h1 p1
  obtain ⟨rfl, C1, f1, K1, hE⟩ := K.callL p1
  refine rk_nxv ?_
  refine rk_istore dL_law_1594 (Nat.le_of_ble_eq_true rfl) ?_
  refine rk_lv [some (.ref sb), some (.ref C.a), some (.ref (A 0)), some (.ref lo), some (.ref dq), some (.int i), some (.int (nI res.1)), none, none] ⟨rfl, rfl, rfl, rfl, rfl, rfl, rfl, trivial⟩ ?_
  refine rk_aload_n dL_law_1596 rfl ?_
  refine rk_cvG (con2 h1 K1.1.2.2.1) cL_173 dL_law_1597 rfl lR_peak (Nat.le_of_ble_eq_true rfl) (Nat.le_of_ble_eq_true rfl) hu.1 hu.2 ((congrFun K1.1.2.2.1 _).trans k.m) ?_
  intro r2 h2 p2
  obtain ⟨w, X2, rfl, rfl, e3, e4, K2⟩ := K1.refL hE hI (by decide) ok2 p2
  refine rk_nxv ?_
  refine rk_istore dL_law_1600 (Nat.le_of_ble_eq_true rfl) ?_
  refine rk_lv [some (.ref sb), some (.ref C.a), some (.ref (A 0)), some (.ref lo), some (.ref dq), some (.int i), some (.int (nI res.1)), some (.int w), none] ⟨rfl, rfl, rfl, rfl, rfl, rfl, rfl, rfl, trivial⟩ ?_
  refine rk_aload_n dL_law_1602 rfl ?_
  refine rk_cvV (c_R_thrown h1 A X2 k) cL_102 dL_law_1603 rfl lR_thrown (Nat.le_of_ble_eq_true rfl) (Nat.le_of_ble_eq_true rfl) hu.1 hu.2 k.m ?_
  refine rk_iload dL_law_1606 rfl ?_
  refine rk_icmp_eq 1613 dL_law_1608 (by decide) (fun q_1608 => ?_) (fun q_1608 => (by exact absurd e3 q_1608))
  refine rk_iload dL_law_1613 rfl ?_
  refine rk_if_ne 1630 dL_law_1615 (by decide) (fun q_1615 => ?_) (fun q_1615 => ?_)
  · refine rk_goto 1633 dL_law_1630 (by decide) ?_
    refine rk_lv [some (.ref sb), some (.ref C.a), some (.ref (A 0)), some (.ref lo), some (.ref dq), some (.int i), none, none, none] ⟨rfl, rfl, rfl, rfl, rfl, rfl, trivial⟩ ?_
    exact nx _ ⟨_, _, _, _, _, _, K2⟩
  · refine rk_aload_n dL_law_1618 rfl ?_
    refine rk_iconst (v := 0) dL_law_1619 (by decide) ?_
    refine rk_lald dL_law_1620 (by first | exact K2.1.2.2.1 | assumption) (by first | exact vp00 | assumption) ?_
    refine rk_iload dL_law_1621 rfl ?_
    refine rk_i2l dL_law_1623 ?_
    refine rk_lcmp dL_law_1624 ?_
    refine rk_if_eq 1630 dL_law_1625 (by decide) (fun q_1625 => ?_) (fun q_1625 => (by exact absurd (lw_cmp (e4 q_1615)) q_1625))
    refine rk_goto 1633 dL_law_1630 (by decide) ?_
    refine rk_lv [some (.ref sb), some (.ref C.a), some (.ref (A 0)), some (.ref lo), some (.ref dq), some (.int i), none, none, none] ⟨rfl, rfl, rfl, rfl, rfl, rfl, trivial⟩ ?_
    exact nx _ ⟨_, _, _, _, _, _, K2⟩
