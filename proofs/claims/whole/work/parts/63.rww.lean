/-! the reference: windows -/
theorem row_e {B b q : Nat} : nI B - nI b + nI q = nI (B + q) - nI b := by
  rw [← nI_add, Int32.sub_eq_add_neg, Int32.sub_eq_add_neg, Int32.add_assoc, Int32.add_assoc, Int32.add_comm (-nI b)]
theorem row_in {B b q : Nat} (h : b ≤ B + q) : nI B - nI b + nI q = nI (B + q - b) := by rw [row_e, pk_sub h]
theorem ou_row {B b q W : Nat} (hB : B + q ≤ 1000) (hb : b ≤ 1000) (hW : W ≤ 1000) : ouB (nI B - nI b + nI q) (nI W) = !decide (b ≤ B + q ∧ B + q - b < W) := by
  by_cases h : b ≤ B + q
  · rw [row_in h]
    by_cases h2 : B + q - b < W
    · rw [decide_eq_true (show _ ∧ _ from ⟨h, h2⟩)]
      exact ouB_f.mpr ⟨nI_pos' (by omega), nI_lt h2 (by omega)⟩
    · rw [decide_eq_false (fun z => h2 z.2)]
      unfold ouB
      rw [decide_eq_true (p := nI W ≤ nI (B + q - b)) (nI_le (by omega) (by omega)), Bool.or_true]
      rfl
  · rw [decide_eq_false (fun z => h z.1), row_e]
    unfold ouB
    have : nI (B + q) - nI b < 0 := by
      rw [Int32.lt_iff_toInt_lt, i_sub (nI_toInt (by omega)) (nI_toInt (by omega)) (by omega), show (0 : Int32).toInt = 0 from rfl]
      omega
    rw [decide_eq_true this]
    rfl
/-- where the reference's windows stand -/
def rwK (X : rX) (n a y x : Nat) : Prop := (n < 14 ∧ a < 14) ∧ winG (X.N n) (X.N a) ∧ (bdI (X.N n) ∧ bdI (X.N a)) ∧ (1 ≤ (X.N a).h ∧ 1 ≤ (X.N a).w) ∧ y < (X.N n).h ∧ x < (X.N n).w
theorem rwK.b {X : rX} {n a y x : Nat} (k : rwK X n a y x) : (z_bef (z_size (X.N n).co) (z_step (X.N n).co) (z_plc (X.N n).co (X.N a).h) (X.N a).h = (gOf (X.N n) (X.N a)).rb ∧ z_bef (z_size (X.N n).co) (z_step (X.N n).co) (z_plc (X.N n).co (X.N a).w) (X.N a).w = (gOf (X.N n) (X.N a)).cb) ∧ (z_size (X.N n).co = (gOf (X.N n) (X.N a)).k ∧ z_step (X.N n).co = (gOf (X.N n) (X.N a)).sp) ∧ (1 ≤ (gOf (X.N n) (X.N a)).k ∧ (gOf (X.N n) (X.N a)).k ≤ 3) ∧ (gOf (X.N n) (X.N a)).sp ≤ 2 ∧ ((gOf (X.N n) (X.N a)).rb ≤ 10 ∧ (gOf (X.N n) (X.N a)).cb ≤ 10) ∧ ((gOf (X.N n) (X.N a)).oh = (X.N a).h ∧ (gOf (X.N n) (X.N a)).ow = (X.N a).w) ∧ (y * (gOf (X.N n) (X.N a)).sp ≤ 8 ∧ x * (gOf (X.N n) (X.N a)).sp ≤ 8) := by
  obtain ⟨-, ⟨⟨⟨c0, g1, g2, g3, g4⟩, -⟩, ⟨h1, h2⟩, -⟩, ⟨bn, ba⟩, -, hy, hx⟩ := k
  have hs : z_size (X.N n).co ≤ 3 ∧ 1 ≤ z_size (X.N n).co := by unfold z_size; omega
  have hp := z_step_or (X.N n).co
  have m1 : (X.N n).h - 1 ≤ 3 := by omega
  have m2 : (X.N n).w - 1 ≤ 3 := by omega
  have p1 : ((X.N n).h - 1) * z_step (X.N n).co ≤ 6 := by rcases hp with h | h <;> rw [h] <;> omega
  have p2 : ((X.N n).w - 1) * z_step (X.N n).co ≤ 6 := by rcases hp with h | h <;> rw [h] <;> omega
  have p3 : y * z_step (X.N n).co ≤ 8 := by rcases hp with h | h <;> rw [h] <;> omega
  have p4 : x * z_step (X.N n).co ≤ 8 := by rcases hp with h | h <;> rw [h] <;> omega
  refine ⟨⟨by rw [← h1]; rfl, by rw [← h2]; rfl⟩, ⟨rfl, rfl⟩, ⟨hs.2, hs.1⟩, by show z_step _ ≤ 2; omega, ⟨?_, ?_⟩, ⟨rfl, rfl⟩, p3, p4⟩
  · show z_bef _ _ _ _ ≤ 10
    unfold z_bef
    omega
  · show z_bef _ _ _ _ ≤ 10
    unfold z_bef
    omega
theorem jst_y {α : Type} {g : wP} {y x : Nat} {s : Nat → Nat → α → α} {j : Nat} {a : α} (h : (g.rb ≤ y * g.sp + j / g.k ∧ y * g.sp + j / g.k - g.rb < g.oh) ∧ (g.cb ≤ x * g.sp + j % g.k ∧ x * g.sp + j % g.k - g.cb < g.ow)) : jst g y x s j a = s (y * g.sp + j / g.k - g.rb) (x * g.sp + j % g.k - g.cb) a := if_pos h
theorem jst_n {α : Type} {g : wP} {y x : Nat} {s : Nat → Nat → α → α} {j : Nat} {a : α} (h : ¬ ((g.rb ≤ y * g.sp + j / g.k ∧ y * g.sp + j / g.k - g.rb < g.oh) ∧ (g.cb ≤ x * g.sp + j % g.k ∧ x * g.sp + j % g.k - g.cb < g.ow))) : jst g y x s j a = a := if_neg h
theorem tap_j {g : wP} {y x o j : Nat} (hk : 1 ≤ g.k) (h : g.rb ≤ y * g.sp + j / g.k ∧ g.cb ≤ x * g.sp + j % g.k) : w_tap g y x o (y * g.sp + j / g.k - g.rb) (x * g.sp + j % g.k - g.cb) = o * g.k * g.k + j := by
  unfold w_tap
  have e1 : ∀ u, g.rb ≤ y * g.sp + u → y * g.sp + u - g.rb + g.rb - y * g.sp = u := fun u h => by omega
  have e2 : ∀ u, g.cb ≤ x * g.sp + u → x * g.sp + u - g.cb + g.cb - x * g.sp = u := fun u h => by omega
  rw [e1 _ h.1, e2 _ h.2, Nat.add_mul, Nat.add_assoc, Nat.mul_comm (j / g.k), Nat.div_add_mod]
def poS (X : rX) (a c r q : Nat) (s : Int32 × Int32 × Nat) : Int32 × Int32 × Nat := (if s.1 < X.ce (128 * a + (r * (X.N a).w + q) * (X.N a).c + c) then X.ce (128 * a + (r * (X.N a).w + q) * (X.N a).c + c) else s.1, s.2.1 + X.ce (128 * a + (r * (X.N a).w + q) * (X.N a).c + c), s.2.2 + 1)
def w2S (X : rX) (g : wP) (n a y x o r q : Nat) (S : Int64) : Int64 := S + (X.ce (128 * a + (r * (X.N a).w + q) * (X.N a).c + o) * X.w ((X.N n).off + w_tap g y x o r q)).toInt64
def w1S (X : rX) (g : wP) (n a y x o r q : Nat) (S : Int64) : Int64 := itr (fun i S => S + (X.ce (128 * a + (r * (X.N a).w + q) * (X.N a).c + i) * X.w ((X.N n).off + (w_tap g y x o r q * (X.N a).c + i))).toInt64) (X.N a).c 0 S
theorem c_R_windowSum2 (b : rk_H) (A : Nat → Nat) (X : rX) (k : rA A) (n a y x o : Nat) (K : rwK X n a y x) (ho : o < (X.N n).c) (hk : (X.N n).kd = 2) (hc : (X.N n).c = (X.N a).c) (hw : (X.N n).off + (X.N n).c * ((gOf (X.N n) (X.N a)).k * (gOf (X.N n) (X.N a)).k) + (X.N n).c ≤ 512) : rk_Con mR_windowSum (3, 44, 0, 0) [.ref (A 0), .int (nI n), .int (nI a), .int (nI y), .int (nI x), .int (nI o)] (rv b A X) (rk_Rv (.long (itr (jst (gOf (X.N n) (X.N a)) y x (w2S X (gOf (X.N n) (X.N a)) n a y x o)) ((gOf (X.N n) (X.N a)).k * (gOf (X.N n) (X.N a)).k) 0 0 + 16 * (X.w ((X.N n).off + (X.N n).c * ((gOf (X.N n) (X.N a)).k * (gOf (X.N n) (X.N a)).k) + o)).toInt64)) (rv b A X)) := by
  obtain ⟨⟨hn, ha⟩, wG, ⟨bn, ba⟩, ⟨oh1, ow1⟩, hy, hx⟩ := id K
  obtain ⟨⟨er, ec⟩, ⟨ek, es⟩, ⟨k1', k3⟩, sp2, ⟨rb, cb⟩, ⟨eoh, eow⟩, py, px⟩ := K.b
  have co12 := bn.1.2.2.2.2.1
  have fh := wG.2.2.1
  have fw := wG.2.2.2
  have bah := ba.1.2.1
  have baw := ba.1.2.2.1
  have bac := ba.1.2.2.2.1
  have kk : ∀ j, j < (gOf (X.N n) (X.N a)).k * (gOf (X.N n) (X.N a)).k → j / (gOf (X.N n) (X.N a)).k ≤ 2 ∧ j % (gOf (X.N n) (X.N a)).k ≤ 2 := fun j hj => by
    have h1 : j / (gOf (X.N n) (X.N a)).k < (gOf (X.N n) (X.N a)).k := Nat.div_lt_of_lt_mul hj
    have h2 := Nat.mod_lt j (show (gOf (X.N n) (X.N a)).k > 0 by omega)
    omega
  have kk9 : (gOf (X.N n) (X.N a)).k * (gOf (X.N n) (X.N a)).k ≤ 9 := Nat.mul_le_mul k3 k3
  have hoo : o * (gOf (X.N n) (X.N a)).k * (gOf (X.N n) (X.N a)).k + (gOf (X.N n) (X.N a)).k * (gOf (X.N n) (X.N a)).k ≤ (X.N n).c * ((gOf (X.N n) (X.N a)).k * (gOf (X.N n) (X.N a)).k) := by
    rw [Nat.mul_assoc, ← Nat.succ_mul]
    exact Nat.mul_le_mul_right _ ho
  have loop : ∀ (k1 j : Nat) (S : Int64), j + k1 = (gOf (X.N n) (X.N a)).k * (gOf (X.N n) (X.N a)).k → rk_Run mR_windowSum (3, 44, 0, 0) (rk_Rv (.long (itr (jst (gOf (X.N n) (X.N a)) y x (w2S X (gOf (X.N n) (X.N a)) n a y x o)) k1 j S + 16 * (X.w ((X.N n).off + (X.N n).c * ((gOf (X.N n) (X.N a)).k * (gOf (X.N n) (X.N a)).k) + o)).toInt64)) (rv b A X)) 35 [some (.ref (A 0)), some (.int (nI n)), some (.int (nI a)), some (.int (nI y)), some (.int (nI x)), some (.int (nI o)), some (.int (nI (gOf (X.N n) (X.N a)).k)), some (.int 1), some (.long S), none, some (.int (nI (j))), none, none, none] [] (rv b A X) (0, 0) := by
    intro k1
    induction k1 with
    | zero =>
      intro j S hj
      have hj : j = (gOf (X.N n) (X.N a)).k * (gOf (X.N n) (X.N a)).k := by omega
      subst hj
      refine rk_iload dR_windowSum_35 rfl ?_
      refine rk_iload dR_windowSum_37 rfl ?_
      refine rk_iload dR_windowSum_39 rfl ?_
      refine rk_imul dR_windowSum_41 ?_
      rw [pk_mul]
      refine rk_icmp_ge 281 dR_windowSum_42 (by decide) (fun q_42 => ?_) (fun q_42 => ?_)
      · refine rk_aload_n dR_windowSum_281 rfl ?_
        refine rk_getf fR_45 dR_windowSum_282 k.m rfl ?_
        refine rk_iload_n dR_windowSum_285 rfl ?_
        refine rk_iald dR_windowSum_286 k.of (vp_in_nI (show n < 14 by omega) (by omega)) ?_
        rw [nI_clamp (show n < 2 ^ 31 by omega)]
        refine rk_iload dR_windowSum_287 rfl ?_
        refine rk_if_eq 307 dR_windowSum_289 (by decide) (fun q_289 => ?_) (fun q_289 => ?_)
        · exact absurd q_289 (by decide)
        · refine rk_aload_n dR_windowSum_292 rfl ?_
          refine rk_getf fR_32 dR_windowSum_293 k.m rfl ?_
          refine rk_iload_n dR_windowSum_296 rfl ?_
          refine rk_iald dR_windowSum_297 k.de (vp_in_nI (show n < 14 by omega) (by omega)) ?_
          rw [nI_clamp (show n < 2 ^ 31 by omega)]
          refine rk_iload dR_windowSum_298 rfl ?_
          refine rk_imul dR_windowSum_300 ?_
          refine rk_iload dR_windowSum_301 rfl ?_
          refine rk_imul dR_windowSum_303 ?_
          refine rk_goto 326 dR_windowSum_304 (by decide) ?_
          refine rk_iadd dR_windowSum_326 ?_
          refine rk_iload dR_windowSum_327 rfl ?_
          refine rk_iadd dR_windowSum_329 ?_
          simp only [pk_mul, nI_add]
          refine rk_istore dR_windowSum_330 (Nat.le_of_ble_eq_true rfl) ?_
          refine rk_lload dR_windowSum_332 rfl ?_
          refine rk_ldc2 qR_204 dR_windowSum_334 ?_
          refine rk_aload_n dR_windowSum_337 rfl ?_
          refine rk_getf fR_7 dR_windowSum_338 k.m rfl ?_
          refine rk_iload dR_windowSum_341 rfl ?_
          refine rk_iald dR_windowSum_343 k.w (vp_in_nI (show (X.N n).off + (X.N n).c * (gOf (X.N n) (X.N a)).k * (gOf (X.N n) (X.N a)).k + o < 512 by rw [Nat.mul_assoc (X.N n).c]; omega) (by omega)) ?_
          refine rk_i2l dR_windowSum_344 ?_
          refine rk_lmul dR_windowSum_345 ?_
          refine rk_ladd dR_windowSum_346 ?_
          exact rk_lret rfl dR_windowSum_347 ⟨(Nat.le_of_ble_eq_true rfl), (Nat.le_of_ble_eq_true rfl)⟩ (⟨by rw [nI_clamp (by rw [Nat.mul_assoc (X.N n).c]; omega), Nat.mul_assoc (X.N n).c]; rfl, rfl⟩)
      · exact absurd (nI_le (Nat.le_refl _) (by omega)) q_42
    | succ k1 ih =>
      intro j S hj
      have hkj := kk j (by omega)
      have nx : ∀ S', jst (gOf (X.N n) (X.N a)) y x (w2S X (gOf (X.N n) (X.N a)) n a y x o) j S = S' → rk_Run mR_windowSum (3, 44, 0, 0) (rk_Rv (.long (itr (jst (gOf (X.N n) (X.N a)) y x (w2S X (gOf (X.N n) (X.N a)) n a y x o)) (k1 + 1) j S + 16 * (X.w ((X.N n).off + (X.N n).c * ((gOf (X.N n) (X.N a)).k * (gOf (X.N n) (X.N a)).k) + o)).toInt64)) (rv b A X)) 275 [some (.ref (A 0)), some (.int (nI n)), some (.int (nI a)), some (.int (nI y)), some (.int (nI x)), some (.int (nI o)), some (.int (nI (gOf (X.N n) (X.N a)).k)), some (.int 1), some (.long S'), none, some (.int (nI (j))), none, none, none] [] (rv b A X) (0, 0) := by
        intro S' hS
        show rk_Run _ _ (rk_Rv (.long (itr (jst (gOf (X.N n) (X.N a)) y x (w2S X (gOf (X.N n) (X.N a)) n a y x o)) k1 (j + 1) (jst (gOf (X.N n) (X.N a)) y x (w2S X (gOf (X.N n) (X.N a)) n a y x o) j S) + 16 * (X.w ((X.N n).off + (X.N n).c * ((gOf (X.N n) (X.N a)).k * (gOf (X.N n) (X.N a)).k) + o)).toInt64)) (rv b A X)) _ _ _ _ _
        rw [hS]
        refine rk_iinc dR_windowSum_275 rfl (inc1 j) (Nat.le_of_ble_eq_true rfl) ?_
        refine rk_goto 35 dR_windowSum_278 (by decide) ?_
        exact ih (j + 1) S' (by omega)
      by_cases hin : (((gOf (X.N n) (X.N a)).rb ≤ y * (gOf (X.N n) (X.N a)).sp + j / (gOf (X.N n) (X.N a)).k ∧ y * (gOf (X.N n) (X.N a)).sp + j / (gOf (X.N n) (X.N a)).k - (gOf (X.N n) (X.N a)).rb < (gOf (X.N n) (X.N a)).oh) ∧ ((gOf (X.N n) (X.N a)).cb ≤ x * (gOf (X.N n) (X.N a)).sp + j % (gOf (X.N n) (X.N a)).k ∧ x * (gOf (X.N n) (X.N a)).sp + j % (gOf (X.N n) (X.N a)).k - (gOf (X.N n) (X.N a)).cb < (gOf (X.N n) (X.N a)).ow))
      · have eS := jst_y (s := w2S X (gOf (X.N n) (X.N a)) n a y x o) (a := S) hin
        have hl := hin
        rw [eoh, eow] at hl
        have hix := ix3 (A := (X.N a).h) (a := y * (gOf (X.N n) (X.N a)).sp + j / (gOf (X.N n) (X.N a)).k - (gOf (X.N n) (X.N a)).rb) (B := (X.N a).w) (b := x * (gOf (X.N n) (X.N a)).sp + j % (gOf (X.N n) (X.N a)).k - (gOf (X.N n) (X.N a)).cb) (C := (X.N a).c) (c := 0) hl.1.2 hl.2.2
        have tap := tap_j (o := o) k1' ⟨hin.1.1, hin.2.1⟩
        have hce := ba.ce
        unfold aN.ce at hce
        have hr1 : ouB (nI (y * (gOf (X.N n) (X.N a)).sp + j / (gOf (X.N n) (X.N a)).k - (gOf (X.N n) (X.N a)).rb)) (nI (X.N a).h) = false := ouB_f.mpr ⟨nI_pos' (by omega), nI_lt hl.1.2 (by omega)⟩
        have hr2 : ouB (nI (x * (gOf (X.N n) (X.N a)).sp + j % (gOf (X.N n) (X.N a)).k - (gOf (X.N n) (X.N a)).cb)) (nI (X.N a).w) = false := ouB_f.mpr ⟨nI_pos' (by omega), nI_lt hl.2.2 (by omega)⟩
        generalize hr : y * (gOf (X.N n) (X.N a)).sp + j / (gOf (X.N n) (X.N a)).k - (gOf (X.N n) (X.N a)).rb = r at *
        generalize hq : x * (gOf (X.N n) (X.N a)).sp + j % (gOf (X.N n) (X.N a)).k - (gOf (X.N n) (X.N a)).cb = q at *
        refine rk_iload dR_windowSum_35 rfl ?_
        refine rk_iload dR_windowSum_37 rfl ?_
        refine rk_iload dR_windowSum_39 rfl ?_
        refine rk_imul dR_windowSum_41 ?_
        rw [pk_mul]
        refine rk_icmp_ge 281 dR_windowSum_42 (by decide) (fun q_42 => (by exact absurd q_42 (nI_ge (by omega) (by omega)))) (fun q_42 => ?_)
        refine rk_iload_n dR_windowSum_45 rfl ?_
        refine rk_aload_n dR_windowSum_46 rfl ?_
        refine rk_aload_n dR_windowSum_47 rfl ?_
        refine rk_getf fR_42 dR_windowSum_48 k.m rfl ?_
        refine rk_iload_n dR_windowSum_51 rfl ?_
        refine rk_iald dR_windowSum_52 k.co (vp_in_nI (show n < 14 by omega) (by omega)) ?_
        rw [nI_clamp (show n < 2 ^ 31 by omega)]
        refine rk_cvV (c_R_stride b A X (X.N n).co (by omega)) cR_121 dR_windowSum_53 rfl lR_stride (Nat.le_of_ble_eq_true rfl) (Nat.le_of_ble_eq_true rfl) (Nat.le_of_ble_eq_true rfl) (Nat.le_of_ble_eq_true rfl) k.m ?_
        refine rk_imul dR_windowSum_56 ?_
        rw [es, pk_mul]
        refine rk_aload_n dR_windowSum_57 rfl ?_
        refine rk_aload_n dR_windowSum_58 rfl ?_
        refine rk_getf fR_26 dR_windowSum_59 k.m rfl ?_
        refine rk_iload_n dR_windowSum_62 rfl ?_
        refine rk_iald dR_windowSum_63 k.hi (vp_in_nI (show a < 14 by omega) (by omega)) ?_
        rw [nI_clamp (show a < 2 ^ 31 by omega)]
        refine rk_aload_n dR_windowSum_64 rfl ?_
        refine rk_getf fR_42 dR_windowSum_65 k.m rfl ?_
        refine rk_iload_n dR_windowSum_68 rfl ?_
        refine rk_iald dR_windowSum_69 k.co (vp_in_nI (show n < 14 by omega) (by omega)) ?_
        rw [nI_clamp (show n < 2 ^ 31 by omega)]
        refine rk_cvV (c_R_before b A X k (X.N n).co (X.N a).h (by omega) oh1 bah fh) cR_198 dR_windowSum_70 rfl lR_before (Nat.le_of_ble_eq_true rfl) (Nat.le_of_ble_eq_true rfl) (Nat.le_of_ble_eq_true rfl) (Nat.le_of_ble_eq_true rfl) k.m ?_
        rw [er]
        refine rk_isub dR_windowSum_73 ?_
        refine rk_iload dR_windowSum_74 rfl ?_
        refine rk_iload dR_windowSum_76 rfl ?_
        refine rk_idiv dR_windowSum_78 (nI_ne0 (by omega) (by omega)) ?_
        rw [pk_div (by omega) (by omega) (by omega)]
        refine rk_iadd dR_windowSum_79 ?_
        rw [row_in hin.1.1, hr]
        refine rk_istore dR_windowSum_80 (Nat.le_of_ble_eq_true rfl) ?_
        refine rk_iload dR_windowSum_82 rfl ?_
        refine rk_aload_n dR_windowSum_84 rfl ?_
        refine rk_aload_n dR_windowSum_85 rfl ?_
        refine rk_getf fR_42 dR_windowSum_86 k.m rfl ?_
        refine rk_iload_n dR_windowSum_89 rfl ?_
        refine rk_iald dR_windowSum_90 k.co (vp_in_nI (show n < 14 by omega) (by omega)) ?_
        rw [nI_clamp (show n < 2 ^ 31 by omega)]
        refine rk_cvV (c_R_stride b A X (X.N n).co (by omega)) cR_121 dR_windowSum_91 rfl lR_stride (Nat.le_of_ble_eq_true rfl) (Nat.le_of_ble_eq_true rfl) (Nat.le_of_ble_eq_true rfl) (Nat.le_of_ble_eq_true rfl) k.m ?_
        refine rk_imul dR_windowSum_94 ?_
        rw [es, pk_mul]
        refine rk_aload_n dR_windowSum_95 rfl ?_
        refine rk_aload_n dR_windowSum_96 rfl ?_
        refine rk_getf fR_29 dR_windowSum_97 k.m rfl ?_
        refine rk_iload_n dR_windowSum_100 rfl ?_
        refine rk_iald dR_windowSum_101 k.wi (vp_in_nI (show a < 14 by omega) (by omega)) ?_
        rw [nI_clamp (show a < 2 ^ 31 by omega)]
        refine rk_aload_n dR_windowSum_102 rfl ?_
        refine rk_getf fR_42 dR_windowSum_103 k.m rfl ?_
        refine rk_iload_n dR_windowSum_106 rfl ?_
        refine rk_iald dR_windowSum_107 k.co (vp_in_nI (show n < 14 by omega) (by omega)) ?_
        rw [nI_clamp (show n < 2 ^ 31 by omega)]
        refine rk_cvV (c_R_before b A X k (X.N n).co (X.N a).w (by omega) ow1 baw fw) cR_198 dR_windowSum_108 rfl lR_before (Nat.le_of_ble_eq_true rfl) (Nat.le_of_ble_eq_true rfl) (Nat.le_of_ble_eq_true rfl) (Nat.le_of_ble_eq_true rfl) k.m ?_
        rw [ec]
        refine rk_isub dR_windowSum_111 ?_
        refine rk_iload dR_windowSum_112 rfl ?_
        refine rk_iload dR_windowSum_114 rfl ?_
        refine rk_irem dR_windowSum_116 (nI_ne0 (by omega) (by omega)) ?_
        rw [pk_rem (by omega) (by omega) (by omega)]
        refine rk_iadd dR_windowSum_117 ?_
        rw [row_in hin.2.1, hq]
        refine rk_istore dR_windowSum_118 (Nat.le_of_ble_eq_true rfl) ?_
        refine rk_aload_n dR_windowSum_120 rfl ?_
        refine rk_iload dR_windowSum_121 rfl ?_
        refine rk_aload_n dR_windowSum_123 rfl ?_
        refine rk_getf fR_26 dR_windowSum_124 k.m rfl ?_
        refine rk_iload_n dR_windowSum_127 rfl ?_
        refine rk_iald dR_windowSum_128 k.hi (vp_in_nI (show a < 14 by omega) (by omega)) ?_
        rw [nI_clamp (show a < 2 ^ 31 by omega)]
        refine rk_cvV (c_R_out b A X (nI r) (nI (X.N a).h)) cR_94 dR_windowSum_129 rfl lR_out (Nat.le_of_ble_eq_true rfl) (Nat.le_of_ble_eq_true rfl) (Nat.le_of_ble_eq_true rfl) (Nat.le_of_ble_eq_true rfl) k.m ?_
        refine rk_if_ne 275 dR_windowSum_132 (by decide) (fun q_132 => (by exact absurd (by rw [hr1]; rfl) q_132)) (fun q_132 => ?_)
        refine rk_aload_n dR_windowSum_135 rfl ?_
        refine rk_iload dR_windowSum_136 rfl ?_
        refine rk_aload_n dR_windowSum_138 rfl ?_
        refine rk_getf fR_29 dR_windowSum_139 k.m rfl ?_
        refine rk_iload_n dR_windowSum_142 rfl ?_
        refine rk_iald dR_windowSum_143 k.wi (vp_in_nI (show a < 14 by omega) (by omega)) ?_
        rw [nI_clamp (show a < 2 ^ 31 by omega)]
        refine rk_cvV (c_R_out b A X (nI q) (nI (X.N a).w)) cR_94 dR_windowSum_144 rfl lR_out (Nat.le_of_ble_eq_true rfl) (Nat.le_of_ble_eq_true rfl) (Nat.le_of_ble_eq_true rfl) (Nat.le_of_ble_eq_true rfl) k.m ?_
        refine rk_if_eq 153 dR_windowSum_147 (by decide) (fun q_147 => ?_) (fun q_147 => (by exact absurd (by rw [hr2]; rfl) q_147))
        refine rk_iload dR_windowSum_153 rfl ?_
        refine rk_if_eq 199 dR_windowSum_155 (by decide) (fun q_155 => (by exact absurd q_155 (by decide))) (fun q_155 => ?_)
        refine rk_lload dR_windowSum_158 rfl ?_
        refine rk_aload_n dR_windowSum_160 rfl ?_
        refine rk_iload_n dR_windowSum_161 rfl ?_
        refine rk_iload dR_windowSum_162 rfl ?_
        refine rk_iload dR_windowSum_164 rfl ?_
        refine rk_iload dR_windowSum_166 rfl ?_
        refine rk_cvV (c_R_at b A X k a r q o ha (by have := ix3 (A := (X.N a).h) (a := r) (B := (X.N a).w) (b := q) (C := (X.N a).c) (c := o) hl.1.2 hl.2.2 (by omega); omega)) cR_201 dR_windowSum_168 rfl lR_at (Nat.le_of_ble_eq_true rfl) (Nat.le_of_ble_eq_true rfl) (Nat.le_of_ble_eq_true rfl) (Nat.le_of_ble_eq_true rfl) k.m ?_
        refine rk_aload_n dR_windowSum_171 rfl ?_
        refine rk_getf fR_7 dR_windowSum_172 k.m rfl ?_
        refine rk_aload_n dR_windowSum_175 rfl ?_
        refine rk_getf fR_45 dR_windowSum_176 k.m rfl ?_
        refine rk_iload_n dR_windowSum_179 rfl ?_
        refine rk_iald dR_windowSum_180 k.of (vp_in_nI (show n < 14 by omega) (by omega)) ?_
        rw [nI_clamp (show n < 2 ^ 31 by omega)]
        refine rk_iload dR_windowSum_181 rfl ?_
        refine rk_iload dR_windowSum_183 rfl ?_
        refine rk_imul dR_windowSum_185 ?_
        refine rk_iload dR_windowSum_186 rfl ?_
        refine rk_imul dR_windowSum_188 ?_
        refine rk_iadd dR_windowSum_189 ?_
        refine rk_iload dR_windowSum_190 rfl ?_
        refine rk_iadd dR_windowSum_192 ?_
        simp only [pk_mul, nI_add]
        refine rk_iald dR_windowSum_193 k.w (vp_in_nI (show (X.N n).off + o * (gOf (X.N n) (X.N a)).k * (gOf (X.N n) (X.N a)).k + j < 512 by omega) (by omega)) ?_
        rw [nI_clamp (show (X.N n).off + o * (gOf (X.N n) (X.N a)).k * (gOf (X.N n) (X.N a)).k + j < 2 ^ 31 by omega)]
        refine rk_imul dR_windowSum_194 ?_
        refine rk_i2l dR_windowSum_195 ?_
        refine rk_ladd dR_windowSum_196 ?_
        refine rk_lstore dR_windowSum_197 (Nat.le_of_ble_eq_true rfl) ?_
        refine rk_iconst (v := 0) dR_windowSum_199 (by decide) ?_
        refine rk_istore dR_windowSum_200 (Nat.le_of_ble_eq_true rfl) ?_
        refine rk_iload dR_windowSum_202 rfl ?_
        refine rk_if_ne 275 dR_windowSum_204 (by decide) (fun q_204 => ?_) (fun q_204 => (by exact absurd q_204 (by decide)))
        refine rk_lv [some (.ref (A 0)), some (.int (nI n)), some (.int (nI a)), some (.int (nI y)), some (.int (nI x)), some (.int (nI o)), some (.int (nI (gOf (X.N n) (X.N a)).k)), some (.int 1), some (.long (S + (X.ce (128 * a + (r * (X.N a).w + q) * (X.N a).c + o) * X.w ((X.N n).off + o * (gOf (X.N n) (X.N a)).k * (gOf (X.N n) (X.N a)).k + j)).toInt64)), none, some (.int (nI (j))), none, none, none] ⟨rfl, rfl, rfl, rfl, rfl, rfl, rfl, rfl, rfl, rfl, trivial⟩ ?_
        exact nx _ (by rw [eS]; unfold w2S; rw [tap, ← Nat.add_assoc (X.N n).off])
      · have eS := jst_n (s := w2S X (gOf (X.N n) (X.N a)) n a y x o) (a := S) hin
        rw [eoh, eow] at hin
        refine rk_iload dR_windowSum_35 rfl ?_
        refine rk_iload dR_windowSum_37 rfl ?_
        refine rk_iload dR_windowSum_39 rfl ?_
        refine rk_imul dR_windowSum_41 ?_
        rw [pk_mul]
        refine rk_icmp_ge 281 dR_windowSum_42 (by decide) (fun q_42 => ?_) (fun q_42 => ?_)
        · exact absurd q_42 (nI_ge (by omega) (by omega))
        · refine rk_iload_n dR_windowSum_45 rfl ?_
          refine rk_aload_n dR_windowSum_46 rfl ?_
          refine rk_aload_n dR_windowSum_47 rfl ?_
          refine rk_getf fR_42 dR_windowSum_48 k.m rfl ?_
          refine rk_iload_n dR_windowSum_51 rfl ?_
          refine rk_iald dR_windowSum_52 k.co (vp_in_nI (show n < 14 by omega) (by omega)) ?_
          rw [nI_clamp (show n < 2 ^ 31 by omega)]
          refine rk_cvV (c_R_stride b A X (X.N n).co (by omega)) cR_121 dR_windowSum_53 rfl lR_stride (Nat.le_of_ble_eq_true rfl) (Nat.le_of_ble_eq_true rfl) (Nat.le_of_ble_eq_true rfl) (Nat.le_of_ble_eq_true rfl) k.m ?_
          refine rk_imul dR_windowSum_56 ?_
          rw [es, pk_mul]
          refine rk_aload_n dR_windowSum_57 rfl ?_
          refine rk_aload_n dR_windowSum_58 rfl ?_
          refine rk_getf fR_26 dR_windowSum_59 k.m rfl ?_
          refine rk_iload_n dR_windowSum_62 rfl ?_
          refine rk_iald dR_windowSum_63 k.hi (vp_in_nI (show a < 14 by omega) (by omega)) ?_
          rw [nI_clamp (show a < 2 ^ 31 by omega)]
          refine rk_aload_n dR_windowSum_64 rfl ?_
          refine rk_getf fR_42 dR_windowSum_65 k.m rfl ?_
          refine rk_iload_n dR_windowSum_68 rfl ?_
          refine rk_iald dR_windowSum_69 k.co (vp_in_nI (show n < 14 by omega) (by omega)) ?_
          rw [nI_clamp (show n < 2 ^ 31 by omega)]
          refine rk_cvV (c_R_before b A X k (X.N n).co (X.N a).h (by omega) oh1 bah fh) cR_198 dR_windowSum_70 rfl lR_before (Nat.le_of_ble_eq_true rfl) (Nat.le_of_ble_eq_true rfl) (Nat.le_of_ble_eq_true rfl) (Nat.le_of_ble_eq_true rfl) k.m ?_
          rw [er]
          refine rk_isub dR_windowSum_73 ?_
          refine rk_iload dR_windowSum_74 rfl ?_
          refine rk_iload dR_windowSum_76 rfl ?_
          refine rk_idiv dR_windowSum_78 (nI_ne0 (by omega) (by omega)) ?_
          rw [pk_div (by omega) (by omega) (by omega)]
          refine rk_iadd dR_windowSum_79 ?_
          refine rk_istore dR_windowSum_80 (Nat.le_of_ble_eq_true rfl) ?_
          refine rk_iload dR_windowSum_82 rfl ?_
          refine rk_aload_n dR_windowSum_84 rfl ?_
          refine rk_aload_n dR_windowSum_85 rfl ?_
          refine rk_getf fR_42 dR_windowSum_86 k.m rfl ?_
          refine rk_iload_n dR_windowSum_89 rfl ?_
          refine rk_iald dR_windowSum_90 k.co (vp_in_nI (show n < 14 by omega) (by omega)) ?_
          rw [nI_clamp (show n < 2 ^ 31 by omega)]
          refine rk_cvV (c_R_stride b A X (X.N n).co (by omega)) cR_121 dR_windowSum_91 rfl lR_stride (Nat.le_of_ble_eq_true rfl) (Nat.le_of_ble_eq_true rfl) (Nat.le_of_ble_eq_true rfl) (Nat.le_of_ble_eq_true rfl) k.m ?_
          refine rk_imul dR_windowSum_94 ?_
          rw [es, pk_mul]
          refine rk_aload_n dR_windowSum_95 rfl ?_
          refine rk_aload_n dR_windowSum_96 rfl ?_
          refine rk_getf fR_29 dR_windowSum_97 k.m rfl ?_
          refine rk_iload_n dR_windowSum_100 rfl ?_
          refine rk_iald dR_windowSum_101 k.wi (vp_in_nI (show a < 14 by omega) (by omega)) ?_
          rw [nI_clamp (show a < 2 ^ 31 by omega)]
          refine rk_aload_n dR_windowSum_102 rfl ?_
          refine rk_getf fR_42 dR_windowSum_103 k.m rfl ?_
          refine rk_iload_n dR_windowSum_106 rfl ?_
          refine rk_iald dR_windowSum_107 k.co (vp_in_nI (show n < 14 by omega) (by omega)) ?_
          rw [nI_clamp (show n < 2 ^ 31 by omega)]
          refine rk_cvV (c_R_before b A X k (X.N n).co (X.N a).w (by omega) ow1 baw fw) cR_198 dR_windowSum_108 rfl lR_before (Nat.le_of_ble_eq_true rfl) (Nat.le_of_ble_eq_true rfl) (Nat.le_of_ble_eq_true rfl) (Nat.le_of_ble_eq_true rfl) k.m ?_
          rw [ec]
          refine rk_isub dR_windowSum_111 ?_
          refine rk_iload dR_windowSum_112 rfl ?_
          refine rk_iload dR_windowSum_114 rfl ?_
          refine rk_irem dR_windowSum_116 (nI_ne0 (by omega) (by omega)) ?_
          rw [pk_rem (by omega) (by omega) (by omega)]
          refine rk_iadd dR_windowSum_117 ?_
          refine rk_istore dR_windowSum_118 (Nat.le_of_ble_eq_true rfl) ?_
          refine rk_aload_n dR_windowSum_120 rfl ?_
          refine rk_iload dR_windowSum_121 rfl ?_
          refine rk_aload_n dR_windowSum_123 rfl ?_
          refine rk_getf fR_26 dR_windowSum_124 k.m rfl ?_
          refine rk_iload_n dR_windowSum_127 rfl ?_
          refine rk_iald dR_windowSum_128 k.hi (vp_in_nI (show a < 14 by omega) (by omega)) ?_
          rw [nI_clamp (show a < 2 ^ 31 by omega)]
          refine rk_cvV (c_R_out b A X _ (nI (X.N a).h)) cR_94 dR_windowSum_129 rfl lR_out (Nat.le_of_ble_eq_true rfl) (Nat.le_of_ble_eq_true rfl) (Nat.le_of_ble_eq_true rfl) (Nat.le_of_ble_eq_true rfl) k.m ?_
          rw [ou_row (by omega) (by omega) (by omega)]
          refine rk_if_ne 275 dR_windowSum_132 (by decide) (fun q_132 => ?_) (fun q_132 => ?_)
          · refine rk_lv [some (.ref (A 0)), some (.int (nI n)), some (.int (nI a)), some (.int (nI y)), some (.int (nI x)), some (.int (nI o)), some (.int (nI (gOf (X.N n) (X.N a)).k)), some (.int 1), some (.long S), none, some (.int (nI (j))), none, none, none] ⟨rfl, rfl, rfl, rfl, rfl, rfl, rfl, rfl, rfl, rfl, trivial⟩ ?_
            exact nx S eS
          · refine rk_aload_n dR_windowSum_135 rfl ?_
            refine rk_iload dR_windowSum_136 rfl ?_
            refine rk_aload_n dR_windowSum_138 rfl ?_
            refine rk_getf fR_29 dR_windowSum_139 k.m rfl ?_
            refine rk_iload_n dR_windowSum_142 rfl ?_
            refine rk_iald dR_windowSum_143 k.wi (vp_in_nI (show a < 14 by omega) (by omega)) ?_
            rw [nI_clamp (show a < 2 ^ 31 by omega)]
            refine rk_cvV (c_R_out b A X _ (nI (X.N a).w)) cR_94 dR_windowSum_144 rfl lR_out (Nat.le_of_ble_eq_true rfl) (Nat.le_of_ble_eq_true rfl) (Nat.le_of_ble_eq_true rfl) (Nat.le_of_ble_eq_true rfl) k.m ?_
            rw [ou_row (by omega) (by omega) (by omega)]
            refine rk_if_eq 153 dR_windowSum_147 (by decide) (fun q_147 => ?_) (fun q_147 => ?_)
            · exact absurd ⟨of_decide_eq_true (b2n q_132), of_decide_eq_true (b2n q_147)⟩ hin
            · refine rk_goto 275 dR_windowSum_150 (by decide) ?_
              refine rk_lv [some (.ref (A 0)), some (.int (nI n)), some (.int (nI a)), some (.int (nI y)), some (.int (nI x)), some (.int (nI o)), some (.int (nI (gOf (X.N n) (X.N a)).k)), some (.int 1), some (.long S), none, some (.int (nI (j))), none, none, none] ⟨rfl, rfl, rfl, rfl, rfl, rfl, rfl, rfl, rfl, rfl, trivial⟩ ?_
              exact nx S eS
  refine rk_Con.of [some (.ref (A 0)), some (.int (nI n)), some (.int (nI a)), some (.int (nI y)), some (.int (nI x)), some (.int (nI o)), none, none, none, none, none, none, none, none] rfl (Nat.le_of_ble_eq_true rfl) (by decide +kernel) ?_
  refine rk_aload_n dR_windowSum_0 rfl ?_
  refine rk_aload_n dR_windowSum_1 rfl ?_
  refine rk_getf fR_42 dR_windowSum_2 k.m rfl ?_
  refine rk_iload_n dR_windowSum_5 rfl ?_
  refine rk_iald dR_windowSum_6 k.co (vp_in_nI (show n < 14 by omega) (by omega)) ?_
  rw [nI_clamp (show n < 2 ^ 31 by omega)]
  refine rk_cvV (c_R_side b A X (X.N n).co (by omega)) cR_124 dR_windowSum_7 rfl lR_side (Nat.le_of_ble_eq_true rfl) (Nat.le_of_ble_eq_true rfl) (Nat.le_of_ble_eq_true rfl) (Nat.le_of_ble_eq_true rfl) k.m ?_
  rw [ek]
  refine rk_istore dR_windowSum_10 (Nat.le_of_ble_eq_true rfl) ?_
  refine rk_aload_n dR_windowSum_12 rfl ?_
  refine rk_getf fR_17 dR_windowSum_13 k.m rfl ?_
  refine rk_iload_n dR_windowSum_16 rfl ?_
  refine rk_iald dR_windowSum_17 k.kd (vp_in_nI (show n < 14 by omega) (by omega)) ?_
  rw [nI_clamp (show n < 2 ^ 31 by omega), hk]
  refine rk_iconst (v := 2) dR_windowSum_18 (by decide) ?_
  refine rk_icmp_ne 26 dR_windowSum_19 (by decide) (fun q_19 => ?_) (fun q_19 => ?_)
  · exact absurd rfl q_19
  · refine rk_iconst (v := 1) dR_windowSum_22 (by decide) ?_
    refine rk_goto 27 dR_windowSum_23 (by decide) ?_
    refine rk_istore dR_windowSum_27 (Nat.le_of_ble_eq_true rfl) ?_
    refine rk_lconst (v := 0) dR_windowSum_29 (by decide) ?_
    refine rk_lstore dR_windowSum_30 (Nat.le_of_ble_eq_true rfl) ?_
    refine rk_iconst (v := 0) dR_windowSum_32 (by decide) ?_
    refine rk_istore dR_windowSum_33 (Nat.le_of_ble_eq_true rfl) ?_
    refine rk_lv [some (.ref (A 0)), some (.int (nI n)), some (.int (nI a)), some (.int (nI y)), some (.int (nI x)), some (.int (nI o)), some (.int (nI (gOf (X.N n) (X.N a)).k)), some (.int 1), some (.long 0), none, some (.int (nI (0))), none, none, none] ⟨rfl, rfl, rfl, rfl, rfl, rfl, rfl, rfl, rfl, rfl, trivial⟩ ?_
    exact loop _ 0 0 (Nat.zero_add _)
theorem c_R_windowSum1 (b : rk_H) (A : Nat → Nat) (X : rX) (k : rA A) (n a y x o : Nat) (K : rwK X n a y x) (ho : o < (X.N n).c) (hk : (X.N n).kd = 1) (hw : (X.N n).off + (X.N n).c * ((gOf (X.N n) (X.N a)).k * (gOf (X.N n) (X.N a)).k * (X.N a).c) + (X.N n).c ≤ 512) : rk_Con mR_windowSum (3, 44, 0, 0) [.ref (A 0), .int (nI n), .int (nI a), .int (nI y), .int (nI x), .int (nI o)] (rv b A X) (rk_Rv (.long (itr (jst (gOf (X.N n) (X.N a)) y x (w1S X (gOf (X.N n) (X.N a)) n a y x o)) ((gOf (X.N n) (X.N a)).k * (gOf (X.N n) (X.N a)).k) 0 0 + 16 * (X.w ((X.N n).off + (X.N n).c * ((gOf (X.N n) (X.N a)).k * (gOf (X.N n) (X.N a)).k * (X.N a).c) + o)).toInt64)) (rv b A X)) := by
  obtain ⟨⟨hn, ha⟩, wG, ⟨bn, ba⟩, ⟨oh1, ow1⟩, hy, hx⟩ := id K
  obtain ⟨⟨er, ec⟩, ⟨ek, es⟩, ⟨k1', k3⟩, sp2, ⟨rb, cb⟩, ⟨eoh, eow⟩, py, px⟩ := K.b
  have co12 := bn.1.2.2.2.2.1
  have fh := wG.2.2.1
  have fw := wG.2.2.2
  have bah := ba.1.2.1
  have baw := ba.1.2.2.1
  have bac := ba.1.2.2.2.1
  have kk : ∀ j, j < (gOf (X.N n) (X.N a)).k * (gOf (X.N n) (X.N a)).k → j / (gOf (X.N n) (X.N a)).k ≤ 2 ∧ j % (gOf (X.N n) (X.N a)).k ≤ 2 := fun j hj => by
    have h1 : j / (gOf (X.N n) (X.N a)).k < (gOf (X.N n) (X.N a)).k := Nat.div_lt_of_lt_mul hj
    have h2 := Nat.mod_lt j (show (gOf (X.N n) (X.N a)).k > 0 by omega)
    omega
  have kk9 : (gOf (X.N n) (X.N a)).k * (gOf (X.N n) (X.N a)).k ≤ 9 := Nat.mul_le_mul k3 k3
  have hoo : o * (gOf (X.N n) (X.N a)).k * (gOf (X.N n) (X.N a)).k + (gOf (X.N n) (X.N a)).k * (gOf (X.N n) (X.N a)).k ≤ (X.N n).c * ((gOf (X.N n) (X.N a)).k * (gOf (X.N n) (X.N a)).k) := by
    rw [Nat.mul_assoc, ← Nat.succ_mul]
    exact Nat.mul_le_mul_right _ ho
  have hod : ∀ j i, j < (gOf (X.N n) (X.N a)).k * (gOf (X.N n) (X.N a)).k → i < (X.N a).c → (X.N n).off + ((o * (gOf (X.N n) (X.N a)).k * (gOf (X.N n) (X.N a)).k + j) * (X.N a).c + i) < 512 := fun j i hj hi => by
    have h1 := ix2 (a := o * (gOf (X.N n) (X.N a)).k * (gOf (X.N n) (X.N a)).k + j) (A := (X.N n).c * ((gOf (X.N n) (X.N a)).k * (gOf (X.N n) (X.N a)).k)) (b := i) (B := (X.N a).c) (by omega) hi
    have h2 : (X.N n).c * ((gOf (X.N n) (X.N a)).k * (gOf (X.N n) (X.N a)).k) * (X.N a).c = (X.N n).c * ((gOf (X.N n) (X.N a)).k * (gOf (X.N n) (X.N a)).k * (X.N a).c) := Nat.mul_assoc _ _ _
    omega
  have loop : ∀ (k1 j : Nat) (S : Int64), j + k1 = (gOf (X.N n) (X.N a)).k * (gOf (X.N n) (X.N a)).k → rk_Run mR_windowSum (3, 44, 0, 0) (rk_Rv (.long (itr (jst (gOf (X.N n) (X.N a)) y x (w1S X (gOf (X.N n) (X.N a)) n a y x o)) k1 j S + 16 * (X.w ((X.N n).off + (X.N n).c * ((gOf (X.N n) (X.N a)).k * (gOf (X.N n) (X.N a)).k * (X.N a).c) + o)).toInt64)) (rv b A X)) 35 [some (.ref (A 0)), some (.int (nI n)), some (.int (nI a)), some (.int (nI y)), some (.int (nI x)), some (.int (nI o)), some (.int (nI (gOf (X.N n) (X.N a)).k)), some (.int 0), some (.long S), none, some (.int (nI (j))), none, none, none] [] (rv b A X) (0, 0) := by
    intro k1
    induction k1 with
    | zero =>
      intro j S hj
      have hj : j = (gOf (X.N n) (X.N a)).k * (gOf (X.N n) (X.N a)).k := by omega
      subst hj
      refine rk_iload dR_windowSum_35 rfl ?_
      refine rk_iload dR_windowSum_37 rfl ?_
      refine rk_iload dR_windowSum_39 rfl ?_
      refine rk_imul dR_windowSum_41 ?_
      rw [pk_mul]
      refine rk_icmp_ge 281 dR_windowSum_42 (by decide) (fun q_42 => ?_) (fun q_42 => ?_)
      · refine rk_aload_n dR_windowSum_281 rfl ?_
        refine rk_getf fR_45 dR_windowSum_282 k.m rfl ?_
        refine rk_iload_n dR_windowSum_285 rfl ?_
        refine rk_iald dR_windowSum_286 k.of (vp_in_nI (show n < 14 by omega) (by omega)) ?_
        rw [nI_clamp (show n < 2 ^ 31 by omega)]
        refine rk_iload dR_windowSum_287 rfl ?_
        refine rk_if_eq 307 dR_windowSum_289 (by decide) (fun q_289 => ?_) (fun q_289 => ?_)
        · refine rk_aload_n dR_windowSum_307 rfl ?_
          refine rk_getf fR_32 dR_windowSum_308 k.m rfl ?_
          refine rk_iload_n dR_windowSum_311 rfl ?_
          refine rk_iald dR_windowSum_312 k.de (vp_in_nI (show n < 14 by omega) (by omega)) ?_
          rw [nI_clamp (show n < 2 ^ 31 by omega)]
          refine rk_iload dR_windowSum_313 rfl ?_
          refine rk_imul dR_windowSum_315 ?_
          refine rk_iload dR_windowSum_316 rfl ?_
          refine rk_imul dR_windowSum_318 ?_
          refine rk_aload_n dR_windowSum_319 rfl ?_
          refine rk_getf fR_32 dR_windowSum_320 k.m rfl ?_
          refine rk_iload_n dR_windowSum_323 rfl ?_
          refine rk_iald dR_windowSum_324 k.de (vp_in_nI (show a < 14 by omega) (by omega)) ?_
          rw [nI_clamp (show a < 2 ^ 31 by omega)]
          refine rk_imul dR_windowSum_325 ?_
          refine rk_iadd dR_windowSum_326 ?_
          refine rk_iload dR_windowSum_327 rfl ?_
          refine rk_iadd dR_windowSum_329 ?_
          simp only [pk_mul, nI_add]
          refine rk_istore dR_windowSum_330 (Nat.le_of_ble_eq_true rfl) ?_
          refine rk_lload dR_windowSum_332 rfl ?_
          refine rk_ldc2 qR_204 dR_windowSum_334 ?_
          refine rk_aload_n dR_windowSum_337 rfl ?_
          refine rk_getf fR_7 dR_windowSum_338 k.m rfl ?_
          refine rk_iload dR_windowSum_341 rfl ?_
          refine rk_iald dR_windowSum_343 k.w (vp_in_nI (show (X.N n).off + (X.N n).c * (gOf (X.N n) (X.N a)).k * (gOf (X.N n) (X.N a)).k * (X.N a).c + o < 512 by rw [Nat.mul_assoc (X.N n).c, Nat.mul_assoc (X.N n).c]; omega) (by omega)) ?_
          refine rk_i2l dR_windowSum_344 ?_
          refine rk_lmul dR_windowSum_345 ?_
          refine rk_ladd dR_windowSum_346 ?_
          exact rk_lret rfl dR_windowSum_347 ⟨(Nat.le_of_ble_eq_true rfl), (Nat.le_of_ble_eq_true rfl)⟩ (⟨by rw [nI_clamp (by rw [Nat.mul_assoc (X.N n).c, Nat.mul_assoc (X.N n).c]; omega), Nat.mul_assoc (X.N n).c, Nat.mul_assoc (X.N n).c]; rfl, rfl⟩)
        · exact absurd rfl q_289
      · exact absurd (nI_le (Nat.le_refl _) (by omega)) q_42
    | succ k1 ih =>
      intro j S hj
      have hkj := kk j (by omega)
      have nx : ∀ S', jst (gOf (X.N n) (X.N a)) y x (w1S X (gOf (X.N n) (X.N a)) n a y x o) j S = S' → rk_Run mR_windowSum (3, 44, 0, 0) (rk_Rv (.long (itr (jst (gOf (X.N n) (X.N a)) y x (w1S X (gOf (X.N n) (X.N a)) n a y x o)) (k1 + 1) j S + 16 * (X.w ((X.N n).off + (X.N n).c * ((gOf (X.N n) (X.N a)).k * (gOf (X.N n) (X.N a)).k * (X.N a).c) + o)).toInt64)) (rv b A X)) 275 [some (.ref (A 0)), some (.int (nI n)), some (.int (nI a)), some (.int (nI y)), some (.int (nI x)), some (.int (nI o)), some (.int (nI (gOf (X.N n) (X.N a)).k)), some (.int 0), some (.long S'), none, some (.int (nI (j))), none, none, none] [] (rv b A X) (0, 0) := by
        intro S' hS
        show rk_Run _ _ (rk_Rv (.long (itr (jst (gOf (X.N n) (X.N a)) y x (w1S X (gOf (X.N n) (X.N a)) n a y x o)) k1 (j + 1) (jst (gOf (X.N n) (X.N a)) y x (w1S X (gOf (X.N n) (X.N a)) n a y x o) j S) + 16 * (X.w ((X.N n).off + (X.N n).c * ((gOf (X.N n) (X.N a)).k * (gOf (X.N n) (X.N a)).k * (X.N a).c) + o)).toInt64)) (rv b A X)) _ _ _ _ _
        rw [hS]
        refine rk_iinc dR_windowSum_275 rfl (inc1 j) (Nat.le_of_ble_eq_true rfl) ?_
        refine rk_goto 35 dR_windowSum_278 (by decide) ?_
        exact ih (j + 1) S' (by omega)
      by_cases hin : (((gOf (X.N n) (X.N a)).rb ≤ y * (gOf (X.N n) (X.N a)).sp + j / (gOf (X.N n) (X.N a)).k ∧ y * (gOf (X.N n) (X.N a)).sp + j / (gOf (X.N n) (X.N a)).k - (gOf (X.N n) (X.N a)).rb < (gOf (X.N n) (X.N a)).oh) ∧ ((gOf (X.N n) (X.N a)).cb ≤ x * (gOf (X.N n) (X.N a)).sp + j % (gOf (X.N n) (X.N a)).k ∧ x * (gOf (X.N n) (X.N a)).sp + j % (gOf (X.N n) (X.N a)).k - (gOf (X.N n) (X.N a)).cb < (gOf (X.N n) (X.N a)).ow))
      · have eS := jst_y (s := w1S X (gOf (X.N n) (X.N a)) n a y x o) (a := S) hin
        have hl := hin
        rw [eoh, eow] at hl
        have hix := ix3 (A := (X.N a).h) (a := y * (gOf (X.N n) (X.N a)).sp + j / (gOf (X.N n) (X.N a)).k - (gOf (X.N n) (X.N a)).rb) (B := (X.N a).w) (b := x * (gOf (X.N n) (X.N a)).sp + j % (gOf (X.N n) (X.N a)).k - (gOf (X.N n) (X.N a)).cb) (C := (X.N a).c) (c := 0) hl.1.2 hl.2.2
        have tap := tap_j (o := o) k1' ⟨hin.1.1, hin.2.1⟩
        have hce := ba.ce
        unfold aN.ce at hce
        have hr1 : ouB (nI (y * (gOf (X.N n) (X.N a)).sp + j / (gOf (X.N n) (X.N a)).k - (gOf (X.N n) (X.N a)).rb)) (nI (X.N a).h) = false := ouB_f.mpr ⟨nI_pos' (by omega), nI_lt hl.1.2 (by omega)⟩
        have hr2 : ouB (nI (x * (gOf (X.N n) (X.N a)).sp + j % (gOf (X.N n) (X.N a)).k - (gOf (X.N n) (X.N a)).cb)) (nI (X.N a).w) = false := ouB_f.mpr ⟨nI_pos' (by omega), nI_lt hl.2.2 (by omega)⟩
        generalize hr : y * (gOf (X.N n) (X.N a)).sp + j / (gOf (X.N n) (X.N a)).k - (gOf (X.N n) (X.N a)).rb = r at *
        generalize hq : x * (gOf (X.N n) (X.N a)).sp + j % (gOf (X.N n) (X.N a)).k - (gOf (X.N n) (X.N a)).cb = q at *
        have inn : ∀ (k2 i : Nat) (T : Int64), i + k2 = (X.N a).c → itr (fun i S => S + (X.ce (128 * a + (r * (X.N a).w + q) * (X.N a).c + i) * X.w ((X.N n).off + ((o * (gOf (X.N n) (X.N a)).k * (gOf (X.N n) (X.N a)).k + j) * (X.N a).c + i))).toInt64) k2 i T = jst (gOf (X.N n) (X.N a)) y x (w1S X (gOf (X.N n) (X.N a)) n a y x o) j S → rk_Run mR_windowSum (3, 44, 0, 0) (rk_Rv (.long (itr (jst (gOf (X.N n) (X.N a)) y x (w1S X (gOf (X.N n) (X.N a)) n a y x o)) (k1 + 1) j S + 16 * (X.w ((X.N n).off + (X.N n).c * ((gOf (X.N n) (X.N a)).k * (gOf (X.N n) (X.N a)).k * (X.N a).c) + o)).toInt64)) (rv b A X)) 202 [some (.ref (A 0)), some (.int (nI n)), some (.int (nI a)), some (.int (nI y)), some (.int (nI x)), some (.int (nI o)), some (.int (nI (gOf (X.N n) (X.N a)).k)), some (.int 0), some (.long T), none, some (.int (nI (j))), some (.int (nI r)), some (.int (nI q)), some (.int (nI i))] [] (rv b A X) (0, 0) := by
          intro k2
          induction k2 with
          | zero =>
            intro i T hi hT
            have hi : i = (X.N a).c := by omega
            subst hi
            refine rk_iload dR_windowSum_202 rfl ?_
            refine rk_if_ne 275 dR_windowSum_204 (by decide) (fun q_204 => (by exact absurd rfl q_204)) (fun q_204 => ?_)
            refine rk_iload dR_windowSum_207 rfl ?_
            refine rk_aload_n dR_windowSum_209 rfl ?_
            refine rk_getf fR_32 dR_windowSum_210 k.m rfl ?_
            refine rk_iload_n dR_windowSum_213 rfl ?_
            refine rk_iald dR_windowSum_214 k.de (vp_in_nI (show a < 14 by omega) (by omega)) ?_
            rw [nI_clamp (show a < 2 ^ 31 by omega)]
            refine rk_icmp_ge 275 dR_windowSum_215 (by decide) (fun q_215 => ?_) (fun q_215 => (by exact absurd (nI_le (Nat.le_refl _) (by omega)) q_215))
            refine rk_lv [some (.ref (A 0)), some (.int (nI n)), some (.int (nI a)), some (.int (nI y)), some (.int (nI x)), some (.int (nI o)), some (.int (nI (gOf (X.N n) (X.N a)).k)), some (.int 0), some (.long T), none, some (.int (nI (j))), none, none, none] ⟨rfl, rfl, rfl, rfl, rfl, rfl, rfl, rfl, rfl, rfl, trivial⟩ ?_
            exact nx T hT.symm
          | succ k2 ih2 =>
            intro i T hi hT
            have hb := hod j i (by omega) (by omega)
            refine rk_iload dR_windowSum_202 rfl ?_
            refine rk_if_ne 275 dR_windowSum_204 (by decide) (fun q_204 => (by exact absurd rfl q_204)) (fun q_204 => ?_)
            refine rk_iload dR_windowSum_207 rfl ?_
            refine rk_aload_n dR_windowSum_209 rfl ?_
            refine rk_getf fR_32 dR_windowSum_210 k.m rfl ?_
            refine rk_iload_n dR_windowSum_213 rfl ?_
            refine rk_iald dR_windowSum_214 k.de (vp_in_nI (show a < 14 by omega) (by omega)) ?_
            rw [nI_clamp (show a < 2 ^ 31 by omega)]
            refine rk_icmp_ge 275 dR_windowSum_215 (by decide) (fun q_215 => (by exact absurd q_215 (nI_ge (by omega) (by omega)))) (fun q_215 => ?_)
            refine rk_lload dR_windowSum_218 rfl ?_
            refine rk_aload_n dR_windowSum_220 rfl ?_
            refine rk_iload_n dR_windowSum_221 rfl ?_
            refine rk_iload dR_windowSum_222 rfl ?_
            refine rk_iload dR_windowSum_224 rfl ?_
            refine rk_iload dR_windowSum_226 rfl ?_
            refine rk_cvV (c_R_at b A X k a r q i ha (by have := ix3 (A := (X.N a).h) (a := r) (B := (X.N a).w) (b := q) (C := (X.N a).c) (c := i) hl.1.2 hl.2.2 (by omega); omega)) cR_201 dR_windowSum_228 rfl lR_at (Nat.le_of_ble_eq_true rfl) (Nat.le_of_ble_eq_true rfl) (Nat.le_of_ble_eq_true rfl) (Nat.le_of_ble_eq_true rfl) k.m ?_
            refine rk_aload_n dR_windowSum_231 rfl ?_
            refine rk_getf fR_7 dR_windowSum_232 k.m rfl ?_
            refine rk_aload_n dR_windowSum_235 rfl ?_
            refine rk_getf fR_45 dR_windowSum_236 k.m rfl ?_
            refine rk_iload_n dR_windowSum_239 rfl ?_
            refine rk_iald dR_windowSum_240 k.of (vp_in_nI (show n < 14 by omega) (by omega)) ?_
            rw [nI_clamp (show n < 2 ^ 31 by omega)]
            refine rk_iload dR_windowSum_241 rfl ?_
            refine rk_iload dR_windowSum_243 rfl ?_
            refine rk_imul dR_windowSum_245 ?_
            refine rk_iload dR_windowSum_246 rfl ?_
            refine rk_imul dR_windowSum_248 ?_
            refine rk_iload dR_windowSum_249 rfl ?_
            refine rk_iadd dR_windowSum_251 ?_
            refine rk_aload_n dR_windowSum_252 rfl ?_
            refine rk_getf fR_32 dR_windowSum_253 k.m rfl ?_
            refine rk_iload_n dR_windowSum_256 rfl ?_
            refine rk_iald dR_windowSum_257 k.de (vp_in_nI (show a < 14 by omega) (by omega)) ?_
            rw [nI_clamp (show a < 2 ^ 31 by omega)]
            refine rk_imul dR_windowSum_258 ?_
            refine rk_iadd dR_windowSum_259 ?_
            refine rk_iload dR_windowSum_260 rfl ?_
            refine rk_iadd dR_windowSum_262 ?_
            simp only [pk_mul, nI_add]
            refine rk_iald dR_windowSum_263 k.w (vp_in_nI (show (X.N n).off + (o * (gOf (X.N n) (X.N a)).k * (gOf (X.N n) (X.N a)).k + j) * (X.N a).c + i < 512 by omega) (by omega)) ?_
            rw [nI_clamp (show (X.N n).off + (o * (gOf (X.N n) (X.N a)).k * (gOf (X.N n) (X.N a)).k + j) * (X.N a).c + i < 2 ^ 31 by omega), Nat.add_assoc (X.N n).off ((o * (gOf (X.N n) (X.N a)).k * (gOf (X.N n) (X.N a)).k + j) * (X.N a).c) i]
            refine rk_imul dR_windowSum_264 ?_
            refine rk_i2l dR_windowSum_265 ?_
            refine rk_ladd dR_windowSum_266 ?_
            refine rk_lstore dR_windowSum_267 (Nat.le_of_ble_eq_true rfl) ?_
            refine rk_iinc dR_windowSum_269 rfl (inc1 i) (Nat.le_of_ble_eq_true rfl) ?_
            refine rk_goto 202 dR_windowSum_272 (by decide) ?_
            exact ih2 (i + 1) _ (by omega) hT
        refine rk_iload dR_windowSum_35 rfl ?_
        refine rk_iload dR_windowSum_37 rfl ?_
        refine rk_iload dR_windowSum_39 rfl ?_
        refine rk_imul dR_windowSum_41 ?_
        rw [pk_mul]
        refine rk_icmp_ge 281 dR_windowSum_42 (by decide) (fun q_42 => (by exact absurd q_42 (nI_ge (by omega) (by omega)))) (fun q_42 => ?_)
        refine rk_iload_n dR_windowSum_45 rfl ?_
        refine rk_aload_n dR_windowSum_46 rfl ?_
        refine rk_aload_n dR_windowSum_47 rfl ?_
        refine rk_getf fR_42 dR_windowSum_48 k.m rfl ?_
        refine rk_iload_n dR_windowSum_51 rfl ?_
        refine rk_iald dR_windowSum_52 k.co (vp_in_nI (show n < 14 by omega) (by omega)) ?_
        rw [nI_clamp (show n < 2 ^ 31 by omega)]
        refine rk_cvV (c_R_stride b A X (X.N n).co (by omega)) cR_121 dR_windowSum_53 rfl lR_stride (Nat.le_of_ble_eq_true rfl) (Nat.le_of_ble_eq_true rfl) (Nat.le_of_ble_eq_true rfl) (Nat.le_of_ble_eq_true rfl) k.m ?_
        refine rk_imul dR_windowSum_56 ?_
        rw [es, pk_mul]
        refine rk_aload_n dR_windowSum_57 rfl ?_
        refine rk_aload_n dR_windowSum_58 rfl ?_
        refine rk_getf fR_26 dR_windowSum_59 k.m rfl ?_
        refine rk_iload_n dR_windowSum_62 rfl ?_
        refine rk_iald dR_windowSum_63 k.hi (vp_in_nI (show a < 14 by omega) (by omega)) ?_
        rw [nI_clamp (show a < 2 ^ 31 by omega)]
        refine rk_aload_n dR_windowSum_64 rfl ?_
        refine rk_getf fR_42 dR_windowSum_65 k.m rfl ?_
        refine rk_iload_n dR_windowSum_68 rfl ?_
        refine rk_iald dR_windowSum_69 k.co (vp_in_nI (show n < 14 by omega) (by omega)) ?_
        rw [nI_clamp (show n < 2 ^ 31 by omega)]
        refine rk_cvV (c_R_before b A X k (X.N n).co (X.N a).h (by omega) oh1 bah fh) cR_198 dR_windowSum_70 rfl lR_before (Nat.le_of_ble_eq_true rfl) (Nat.le_of_ble_eq_true rfl) (Nat.le_of_ble_eq_true rfl) (Nat.le_of_ble_eq_true rfl) k.m ?_
        rw [er]
        refine rk_isub dR_windowSum_73 ?_
        refine rk_iload dR_windowSum_74 rfl ?_
        refine rk_iload dR_windowSum_76 rfl ?_
        refine rk_idiv dR_windowSum_78 (nI_ne0 (by omega) (by omega)) ?_
        rw [pk_div (by omega) (by omega) (by omega)]
        refine rk_iadd dR_windowSum_79 ?_
        rw [row_in hin.1.1, hr]
        refine rk_istore dR_windowSum_80 (Nat.le_of_ble_eq_true rfl) ?_
        refine rk_iload dR_windowSum_82 rfl ?_
        refine rk_aload_n dR_windowSum_84 rfl ?_
        refine rk_aload_n dR_windowSum_85 rfl ?_
        refine rk_getf fR_42 dR_windowSum_86 k.m rfl ?_
        refine rk_iload_n dR_windowSum_89 rfl ?_
        refine rk_iald dR_windowSum_90 k.co (vp_in_nI (show n < 14 by omega) (by omega)) ?_
        rw [nI_clamp (show n < 2 ^ 31 by omega)]
        refine rk_cvV (c_R_stride b A X (X.N n).co (by omega)) cR_121 dR_windowSum_91 rfl lR_stride (Nat.le_of_ble_eq_true rfl) (Nat.le_of_ble_eq_true rfl) (Nat.le_of_ble_eq_true rfl) (Nat.le_of_ble_eq_true rfl) k.m ?_
        refine rk_imul dR_windowSum_94 ?_
        rw [es, pk_mul]
        refine rk_aload_n dR_windowSum_95 rfl ?_
        refine rk_aload_n dR_windowSum_96 rfl ?_
        refine rk_getf fR_29 dR_windowSum_97 k.m rfl ?_
        refine rk_iload_n dR_windowSum_100 rfl ?_
        refine rk_iald dR_windowSum_101 k.wi (vp_in_nI (show a < 14 by omega) (by omega)) ?_
        rw [nI_clamp (show a < 2 ^ 31 by omega)]
        refine rk_aload_n dR_windowSum_102 rfl ?_
        refine rk_getf fR_42 dR_windowSum_103 k.m rfl ?_
        refine rk_iload_n dR_windowSum_106 rfl ?_
        refine rk_iald dR_windowSum_107 k.co (vp_in_nI (show n < 14 by omega) (by omega)) ?_
        rw [nI_clamp (show n < 2 ^ 31 by omega)]
        refine rk_cvV (c_R_before b A X k (X.N n).co (X.N a).w (by omega) ow1 baw fw) cR_198 dR_windowSum_108 rfl lR_before (Nat.le_of_ble_eq_true rfl) (Nat.le_of_ble_eq_true rfl) (Nat.le_of_ble_eq_true rfl) (Nat.le_of_ble_eq_true rfl) k.m ?_
        rw [ec]
        refine rk_isub dR_windowSum_111 ?_
        refine rk_iload dR_windowSum_112 rfl ?_
        refine rk_iload dR_windowSum_114 rfl ?_
        refine rk_irem dR_windowSum_116 (nI_ne0 (by omega) (by omega)) ?_
        rw [pk_rem (by omega) (by omega) (by omega)]
        refine rk_iadd dR_windowSum_117 ?_
        rw [row_in hin.2.1, hq]
        refine rk_istore dR_windowSum_118 (Nat.le_of_ble_eq_true rfl) ?_
        refine rk_aload_n dR_windowSum_120 rfl ?_
        refine rk_iload dR_windowSum_121 rfl ?_
        refine rk_aload_n dR_windowSum_123 rfl ?_
        refine rk_getf fR_26 dR_windowSum_124 k.m rfl ?_
        refine rk_iload_n dR_windowSum_127 rfl ?_
        refine rk_iald dR_windowSum_128 k.hi (vp_in_nI (show a < 14 by omega) (by omega)) ?_
        rw [nI_clamp (show a < 2 ^ 31 by omega)]
        refine rk_cvV (c_R_out b A X (nI r) (nI (X.N a).h)) cR_94 dR_windowSum_129 rfl lR_out (Nat.le_of_ble_eq_true rfl) (Nat.le_of_ble_eq_true rfl) (Nat.le_of_ble_eq_true rfl) (Nat.le_of_ble_eq_true rfl) k.m ?_
        refine rk_if_ne 275 dR_windowSum_132 (by decide) (fun q_132 => (by exact absurd (by rw [hr1]; rfl) q_132)) (fun q_132 => ?_)
        refine rk_aload_n dR_windowSum_135 rfl ?_
        refine rk_iload dR_windowSum_136 rfl ?_
        refine rk_aload_n dR_windowSum_138 rfl ?_
        refine rk_getf fR_29 dR_windowSum_139 k.m rfl ?_
        refine rk_iload_n dR_windowSum_142 rfl ?_
        refine rk_iald dR_windowSum_143 k.wi (vp_in_nI (show a < 14 by omega) (by omega)) ?_
        rw [nI_clamp (show a < 2 ^ 31 by omega)]
        refine rk_cvV (c_R_out b A X (nI q) (nI (X.N a).w)) cR_94 dR_windowSum_144 rfl lR_out (Nat.le_of_ble_eq_true rfl) (Nat.le_of_ble_eq_true rfl) (Nat.le_of_ble_eq_true rfl) (Nat.le_of_ble_eq_true rfl) k.m ?_
        refine rk_if_eq 153 dR_windowSum_147 (by decide) (fun q_147 => ?_) (fun q_147 => (by exact absurd (by rw [hr2]; rfl) q_147))
        refine rk_iload dR_windowSum_153 rfl ?_
        refine rk_if_eq 199 dR_windowSum_155 (by decide) (fun q_155 => ?_) (fun q_155 => (by exact absurd rfl q_155))
        refine rk_iconst (v := 0) dR_windowSum_199 (by decide) ?_
        refine rk_istore dR_windowSum_200 (Nat.le_of_ble_eq_true rfl) ?_
        exact inn (X.N a).c 0 S (Nat.zero_add _) (by rw [eS]; unfold w1S; rw [tap])
      · have eS := jst_n (s := w1S X (gOf (X.N n) (X.N a)) n a y x o) (a := S) hin
        rw [eoh, eow] at hin
        refine rk_iload dR_windowSum_35 rfl ?_
        refine rk_iload dR_windowSum_37 rfl ?_
        refine rk_iload dR_windowSum_39 rfl ?_
        refine rk_imul dR_windowSum_41 ?_
        rw [pk_mul]
        refine rk_icmp_ge 281 dR_windowSum_42 (by decide) (fun q_42 => ?_) (fun q_42 => ?_)
        · exact absurd q_42 (nI_ge (by omega) (by omega))
        · refine rk_iload_n dR_windowSum_45 rfl ?_
          refine rk_aload_n dR_windowSum_46 rfl ?_
          refine rk_aload_n dR_windowSum_47 rfl ?_
          refine rk_getf fR_42 dR_windowSum_48 k.m rfl ?_
          refine rk_iload_n dR_windowSum_51 rfl ?_
          refine rk_iald dR_windowSum_52 k.co (vp_in_nI (show n < 14 by omega) (by omega)) ?_
          rw [nI_clamp (show n < 2 ^ 31 by omega)]
          refine rk_cvV (c_R_stride b A X (X.N n).co (by omega)) cR_121 dR_windowSum_53 rfl lR_stride (Nat.le_of_ble_eq_true rfl) (Nat.le_of_ble_eq_true rfl) (Nat.le_of_ble_eq_true rfl) (Nat.le_of_ble_eq_true rfl) k.m ?_
          refine rk_imul dR_windowSum_56 ?_
          rw [es, pk_mul]
          refine rk_aload_n dR_windowSum_57 rfl ?_
          refine rk_aload_n dR_windowSum_58 rfl ?_
          refine rk_getf fR_26 dR_windowSum_59 k.m rfl ?_
          refine rk_iload_n dR_windowSum_62 rfl ?_
          refine rk_iald dR_windowSum_63 k.hi (vp_in_nI (show a < 14 by omega) (by omega)) ?_
          rw [nI_clamp (show a < 2 ^ 31 by omega)]
          refine rk_aload_n dR_windowSum_64 rfl ?_
          refine rk_getf fR_42 dR_windowSum_65 k.m rfl ?_
          refine rk_iload_n dR_windowSum_68 rfl ?_
          refine rk_iald dR_windowSum_69 k.co (vp_in_nI (show n < 14 by omega) (by omega)) ?_
          rw [nI_clamp (show n < 2 ^ 31 by omega)]
          refine rk_cvV (c_R_before b A X k (X.N n).co (X.N a).h (by omega) oh1 bah fh) cR_198 dR_windowSum_70 rfl lR_before (Nat.le_of_ble_eq_true rfl) (Nat.le_of_ble_eq_true rfl) (Nat.le_of_ble_eq_true rfl) (Nat.le_of_ble_eq_true rfl) k.m ?_
          rw [er]
          refine rk_isub dR_windowSum_73 ?_
          refine rk_iload dR_windowSum_74 rfl ?_
          refine rk_iload dR_windowSum_76 rfl ?_
          refine rk_idiv dR_windowSum_78 (nI_ne0 (by omega) (by omega)) ?_
          rw [pk_div (by omega) (by omega) (by omega)]
          refine rk_iadd dR_windowSum_79 ?_
          refine rk_istore dR_windowSum_80 (Nat.le_of_ble_eq_true rfl) ?_
          refine rk_iload dR_windowSum_82 rfl ?_
          refine rk_aload_n dR_windowSum_84 rfl ?_
          refine rk_aload_n dR_windowSum_85 rfl ?_
          refine rk_getf fR_42 dR_windowSum_86 k.m rfl ?_
          refine rk_iload_n dR_windowSum_89 rfl ?_
          refine rk_iald dR_windowSum_90 k.co (vp_in_nI (show n < 14 by omega) (by omega)) ?_
          rw [nI_clamp (show n < 2 ^ 31 by omega)]
          refine rk_cvV (c_R_stride b A X (X.N n).co (by omega)) cR_121 dR_windowSum_91 rfl lR_stride (Nat.le_of_ble_eq_true rfl) (Nat.le_of_ble_eq_true rfl) (Nat.le_of_ble_eq_true rfl) (Nat.le_of_ble_eq_true rfl) k.m ?_
          refine rk_imul dR_windowSum_94 ?_
          rw [es, pk_mul]
          refine rk_aload_n dR_windowSum_95 rfl ?_
          refine rk_aload_n dR_windowSum_96 rfl ?_
          refine rk_getf fR_29 dR_windowSum_97 k.m rfl ?_
          refine rk_iload_n dR_windowSum_100 rfl ?_
          refine rk_iald dR_windowSum_101 k.wi (vp_in_nI (show a < 14 by omega) (by omega)) ?_
          rw [nI_clamp (show a < 2 ^ 31 by omega)]
          refine rk_aload_n dR_windowSum_102 rfl ?_
          refine rk_getf fR_42 dR_windowSum_103 k.m rfl ?_
          refine rk_iload_n dR_windowSum_106 rfl ?_
          refine rk_iald dR_windowSum_107 k.co (vp_in_nI (show n < 14 by omega) (by omega)) ?_
          rw [nI_clamp (show n < 2 ^ 31 by omega)]
          refine rk_cvV (c_R_before b A X k (X.N n).co (X.N a).w (by omega) ow1 baw fw) cR_198 dR_windowSum_108 rfl lR_before (Nat.le_of_ble_eq_true rfl) (Nat.le_of_ble_eq_true rfl) (Nat.le_of_ble_eq_true rfl) (Nat.le_of_ble_eq_true rfl) k.m ?_
          rw [ec]
          refine rk_isub dR_windowSum_111 ?_
          refine rk_iload dR_windowSum_112 rfl ?_
          refine rk_iload dR_windowSum_114 rfl ?_
          refine rk_irem dR_windowSum_116 (nI_ne0 (by omega) (by omega)) ?_
          rw [pk_rem (by omega) (by omega) (by omega)]
          refine rk_iadd dR_windowSum_117 ?_
          refine rk_istore dR_windowSum_118 (Nat.le_of_ble_eq_true rfl) ?_
          refine rk_aload_n dR_windowSum_120 rfl ?_
          refine rk_iload dR_windowSum_121 rfl ?_
          refine rk_aload_n dR_windowSum_123 rfl ?_
          refine rk_getf fR_26 dR_windowSum_124 k.m rfl ?_
          refine rk_iload_n dR_windowSum_127 rfl ?_
          refine rk_iald dR_windowSum_128 k.hi (vp_in_nI (show a < 14 by omega) (by omega)) ?_
          rw [nI_clamp (show a < 2 ^ 31 by omega)]
          refine rk_cvV (c_R_out b A X _ (nI (X.N a).h)) cR_94 dR_windowSum_129 rfl lR_out (Nat.le_of_ble_eq_true rfl) (Nat.le_of_ble_eq_true rfl) (Nat.le_of_ble_eq_true rfl) (Nat.le_of_ble_eq_true rfl) k.m ?_
          rw [ou_row (by omega) (by omega) (by omega)]
          refine rk_if_ne 275 dR_windowSum_132 (by decide) (fun q_132 => ?_) (fun q_132 => ?_)
          · refine rk_lv [some (.ref (A 0)), some (.int (nI n)), some (.int (nI a)), some (.int (nI y)), some (.int (nI x)), some (.int (nI o)), some (.int (nI (gOf (X.N n) (X.N a)).k)), some (.int 0), some (.long S), none, some (.int (nI (j))), none, none, none] ⟨rfl, rfl, rfl, rfl, rfl, rfl, rfl, rfl, rfl, rfl, trivial⟩ ?_
            exact nx S eS
          · refine rk_aload_n dR_windowSum_135 rfl ?_
            refine rk_iload dR_windowSum_136 rfl ?_
            refine rk_aload_n dR_windowSum_138 rfl ?_
            refine rk_getf fR_29 dR_windowSum_139 k.m rfl ?_
            refine rk_iload_n dR_windowSum_142 rfl ?_
            refine rk_iald dR_windowSum_143 k.wi (vp_in_nI (show a < 14 by omega) (by omega)) ?_
            rw [nI_clamp (show a < 2 ^ 31 by omega)]
            refine rk_cvV (c_R_out b A X _ (nI (X.N a).w)) cR_94 dR_windowSum_144 rfl lR_out (Nat.le_of_ble_eq_true rfl) (Nat.le_of_ble_eq_true rfl) (Nat.le_of_ble_eq_true rfl) (Nat.le_of_ble_eq_true rfl) k.m ?_
            rw [ou_row (by omega) (by omega) (by omega)]
            refine rk_if_eq 153 dR_windowSum_147 (by decide) (fun q_147 => ?_) (fun q_147 => ?_)
            · exact absurd ⟨of_decide_eq_true (b2n q_132), of_decide_eq_true (b2n q_147)⟩ hin
            · refine rk_goto 275 dR_windowSum_150 (by decide) ?_
              refine rk_lv [some (.ref (A 0)), some (.int (nI n)), some (.int (nI a)), some (.int (nI y)), some (.int (nI x)), some (.int (nI o)), some (.int (nI (gOf (X.N n) (X.N a)).k)), some (.int 0), some (.long S), none, some (.int (nI (j))), none, none, none] ⟨rfl, rfl, rfl, rfl, rfl, rfl, rfl, rfl, rfl, rfl, trivial⟩ ?_
              exact nx S eS
  refine rk_Con.of [some (.ref (A 0)), some (.int (nI n)), some (.int (nI a)), some (.int (nI y)), some (.int (nI x)), some (.int (nI o)), none, none, none, none, none, none, none, none] rfl (Nat.le_of_ble_eq_true rfl) (by decide +kernel) ?_
  refine rk_aload_n dR_windowSum_0 rfl ?_
  refine rk_aload_n dR_windowSum_1 rfl ?_
  refine rk_getf fR_42 dR_windowSum_2 k.m rfl ?_
  refine rk_iload_n dR_windowSum_5 rfl ?_
  refine rk_iald dR_windowSum_6 k.co (vp_in_nI (show n < 14 by omega) (by omega)) ?_
  rw [nI_clamp (show n < 2 ^ 31 by omega)]
  refine rk_cvV (c_R_side b A X (X.N n).co (by omega)) cR_124 dR_windowSum_7 rfl lR_side (Nat.le_of_ble_eq_true rfl) (Nat.le_of_ble_eq_true rfl) (Nat.le_of_ble_eq_true rfl) (Nat.le_of_ble_eq_true rfl) k.m ?_
  rw [ek]
  refine rk_istore dR_windowSum_10 (Nat.le_of_ble_eq_true rfl) ?_
  refine rk_aload_n dR_windowSum_12 rfl ?_
  refine rk_getf fR_17 dR_windowSum_13 k.m rfl ?_
  refine rk_iload_n dR_windowSum_16 rfl ?_
  refine rk_iald dR_windowSum_17 k.kd (vp_in_nI (show n < 14 by omega) (by omega)) ?_
  rw [nI_clamp (show n < 2 ^ 31 by omega), hk]
  refine rk_iconst (v := 2) dR_windowSum_18 (by decide) ?_
  refine rk_icmp_ne 26 dR_windowSum_19 (by decide) (fun q_19 => ?_) (fun q_19 => ?_)
  · refine rk_iconst (v := 0) dR_windowSum_26 (by decide) ?_
    refine rk_istore dR_windowSum_27 (Nat.le_of_ble_eq_true rfl) ?_
    refine rk_lconst (v := 0) dR_windowSum_29 (by decide) ?_
    refine rk_lstore dR_windowSum_30 (Nat.le_of_ble_eq_true rfl) ?_
    refine rk_iconst (v := 0) dR_windowSum_32 (by decide) ?_
    refine rk_istore dR_windowSum_33 (Nat.le_of_ble_eq_true rfl) ?_
    refine rk_lv [some (.ref (A 0)), some (.int (nI n)), some (.int (nI a)), some (.int (nI y)), some (.int (nI x)), some (.int (nI o)), some (.int (nI (gOf (X.N n) (X.N a)).k)), some (.int 0), some (.long 0), none, some (.int (nI (0))), none, none, none] ⟨rfl, rfl, rfl, rfl, rfl, rfl, rfl, rfl, rfl, rfl, trivial⟩ ?_
    exact loop _ 0 0 (Nat.zero_add _)
  · exact absurd q_19 (by decide)
theorem c_R_pooled (b : rk_H) (A : Nat → Nat) (X : rX) (k : rA A) (n a y x c : Nat) (K : rwK X n a y x) (hc : c < (X.N a).c) (hkd : (X.N n).kd = 7 ∨ (X.N n).kd = 8) (hcn : 1 ≤ (itr (jst (gOf (X.N n) (X.N a)) y x (poS X a c)) ((gOf (X.N n) (X.N a)).k * (gOf (X.N n) (X.N a)).k) 0 ((-129, 0, 0) : Int32 × Int32 × Nat)).2.2 ∧ (itr (jst (gOf (X.N n) (X.N a)) y x (poS X a c)) ((gOf (X.N n) (X.N a)).k * (gOf (X.N n) (X.N a)).k) 0 ((-129, 0, 0) : Int32 × Int32 × Nat)).2.2 ≤ 9) : rk_Con mR_pooled (3, 44, 0, 0) [.ref (A 0), .int (nI n), .int (nI a), .int (nI y), .int (nI x), .int (nI c)] (rv b A X) (fun r h' => r = .inl (some (.int (if (X.N n).kd = 7 then (itr (jst (gOf (X.N n) (X.N a)) y x (poS X a c)) ((gOf (X.N n) (X.N a)).k * (gOf (X.N n) (X.N a)).k) 0 ((-129, 0, 0) : Int32 × Int32 × Nat)).1 else (hv (2 * (itr (jst (gOf (X.N n) (X.N a)) y x (poS X a c)) ((gOf (X.N n) (X.N a)).k * (gOf (X.N n) (X.N a)).k) 0 ((-129, 0, 0) : Int32 × Int32 × Nat)).2.1.toInt64) (2 * (nI (itr (jst (gOf (X.N n) (X.N a)) y x (poS X a c)) ((gOf (X.N n) (X.N a)).k * (gOf (X.N n) (X.N a)).k) 0 ((-129, 0, 0) : Int32 × Int32 × Nat)).2.2).toInt64)).toInt32))) ∧ h' = rv b A X) := by
  obtain ⟨⟨hn, ha⟩, wG, ⟨bn, ba⟩, ⟨oh1, ow1⟩, hy, hx⟩ := id K
  obtain ⟨⟨er, ec⟩, ⟨ek, es⟩, ⟨k1', k3⟩, sp2, ⟨rb, cb⟩, ⟨eoh, eow⟩, py, px⟩ := K.b
  have co12 := bn.1.2.2.2.2.1
  have fh := wG.2.2.1
  have fw := wG.2.2.2
  have bah := ba.1.2.1
  have baw := ba.1.2.2.1
  have bac := ba.1.2.2.2.1
  have kk : ∀ j, j < (gOf (X.N n) (X.N a)).k * (gOf (X.N n) (X.N a)).k → j / (gOf (X.N n) (X.N a)).k ≤ 2 ∧ j % (gOf (X.N n) (X.N a)).k ≤ 2 := fun j hj => by
    have h1 : j / (gOf (X.N n) (X.N a)).k < (gOf (X.N n) (X.N a)).k := Nat.div_lt_of_lt_mul hj
    have h2 := Nat.mod_lt j (show (gOf (X.N n) (X.N a)).k > 0 by omega)
    omega
  have kk9 : (gOf (X.N n) (X.N a)).k * (gOf (X.N n) (X.N a)).k ≤ 9 := Nat.mul_le_mul k3 k3
  have e7 : nI (X.N n).kd = 7 ↔ (X.N n).kd = 7 := nI_eq (b := 7) (by omega) (by omega)
  have loop : ∀ (k1 j : Nat) (s : Int32 × Int32 × Nat), j + k1 = (gOf (X.N n) (X.N a)).k * (gOf (X.N n) (X.N a)).k → (itr (jst (gOf (X.N n) (X.N a)) y x (poS X a c)) k1 j s) = (itr (jst (gOf (X.N n) (X.N a)) y x (poS X a c)) ((gOf (X.N n) (X.N a)).k * (gOf (X.N n) (X.N a)).k) 0 ((-129, 0, 0) : Int32 × Int32 × Nat)) → rk_Run mR_pooled (3, 44, 0, 0) (fun r h' => r = .inl (some (.int (if (X.N n).kd = 7 then (itr (jst (gOf (X.N n) (X.N a)) y x (poS X a c)) ((gOf (X.N n) (X.N a)).k * (gOf (X.N n) (X.N a)).k) 0 ((-129, 0, 0) : Int32 × Int32 × Nat)).1 else (hv (2 * (itr (jst (gOf (X.N n) (X.N a)) y x (poS X a c)) ((gOf (X.N n) (X.N a)).k * (gOf (X.N n) (X.N a)).k) 0 ((-129, 0, 0) : Int32 × Int32 × Nat)).2.1.toInt64) (2 * (nI (itr (jst (gOf (X.N n) (X.N a)) y x (poS X a c)) ((gOf (X.N n) (X.N a)).k * (gOf (X.N n) (X.N a)).k) 0 ((-129, 0, 0) : Int32 × Int32 × Nat)).2.2).toInt64)).toInt32))) ∧ h' = rv b A X) 26 [some (.ref (A 0)), some (.int (nI n)), some (.int (nI a)), some (.int (nI y)), some (.int (nI x)), some (.int (nI c)), some (.int (nI (gOf (X.N n) (X.N a)).k)), some (.int s.1), some (.int s.2.1), some (.int (nI s.2.2)), some (.int (nI (j))), none, none, none] [] (rv b A X) (0, 0) := by
    intro k1
    induction k1 with
    | zero =>
      intro j s hj hs
      have hs : s = _ := hs
      rw [← hs] at hcn ⊢
      have hj : j = (gOf (X.N n) (X.N a)).k * (gOf (X.N n) (X.N a)).k := by omega
      subst hj
      have hne : ¬ (2 * (nI s.2.2).toInt64 : Int64) = 0 := fun z => by
        have e := l_mul (a := 2) (b := (nI s.2.2).toInt64) (show (2 : Int64).toInt = 2 from rfl) ((Int32.toInt_toInt64 _).trans (nI_toInt (by omega))) (by omega)
        rw [z, show (0 : Int64).toInt = 0 from rfl] at e
        omega
      refine rk_iload dR_pooled_26 rfl ?_
      refine rk_iload dR_pooled_28 rfl ?_
      refine rk_iload dR_pooled_30 rfl ?_
      refine rk_imul dR_pooled_32 ?_
      rw [pk_mul]
      refine rk_icmp_ge 189 dR_pooled_33 (by decide) (fun q_33 => ?_) (fun q_33 => ?_)
      · refine rk_aload_n dR_pooled_189 rfl ?_
        refine rk_getf fR_17 dR_pooled_190 k.m rfl ?_
        refine rk_iload_n dR_pooled_193 rfl ?_
        refine rk_iald dR_pooled_194 k.kd (vp_in_nI (show n < 14 by omega) (by omega)) ?_
        rw [nI_clamp (show n < 2 ^ 31 by omega)]
        refine rk_bipush (v := 7) dR_pooled_195 (by decide) ?_
        refine rk_icmp_ne 205 dR_pooled_197 (by decide) (fun q_197 => ?_) (fun q_197 => ?_)
        · refine rk_aload_n dR_pooled_205 rfl ?_
          refine rk_ldc2 qR_178 dR_pooled_206 ?_
          refine rk_iload dR_pooled_209 rfl ?_
          refine rk_i2l dR_pooled_211 ?_
          refine rk_lmul dR_pooled_212 ?_
          refine rk_ldc2 qR_178 dR_pooled_213 ?_
          refine rk_iload dR_pooled_216 rfl ?_
          refine rk_i2l dR_pooled_218 ?_
          refine rk_lmul dR_pooled_219 ?_
          refine rk_cvV (c_R_halves b A X (2 * s.2.1.toInt64) (2 * (nI s.2.2).toInt64) hne) cR_190 dR_pooled_220 rfl lR_halves (Nat.le_of_ble_eq_true rfl) (Nat.le_of_ble_eq_true rfl) (Nat.le_of_ble_eq_true rfl) (Nat.le_of_ble_eq_true rfl) k.m ?_
          refine rk_l2i dR_pooled_223 ?_
          exact rk_iret rfl dR_pooled_224 ⟨(Nat.le_of_ble_eq_true rfl), (Nat.le_of_ble_eq_true rfl)⟩ (by first | exact ⟨by rw [if_pos (e7.mp q_197)], rfl⟩ | exact ⟨by rw [if_neg (mt e7.mpr q_197)], rfl⟩)
        · refine rk_iload dR_pooled_200 rfl ?_
          refine rk_goto 224 dR_pooled_202 (by decide) ?_
          exact rk_iret rfl dR_pooled_224 ⟨(Nat.le_of_ble_eq_true rfl), (Nat.le_of_ble_eq_true rfl)⟩ (by first | exact ⟨by rw [if_pos (e7.mp q_197)], rfl⟩ | exact ⟨by rw [if_neg (mt e7.mpr q_197)], rfl⟩)
      · exact absurd (nI_le (Nat.le_refl _) (by omega)) q_33
    | succ k1 ih =>
      intro j s hj hs
      have hkj := kk j (by omega)
      have nx : ∀ s', jst (gOf (X.N n) (X.N a)) y x (poS X a c) j s = s' → rk_Run mR_pooled (3, 44, 0, 0) (fun r h' => r = .inl (some (.int (if (X.N n).kd = 7 then (itr (jst (gOf (X.N n) (X.N a)) y x (poS X a c)) ((gOf (X.N n) (X.N a)).k * (gOf (X.N n) (X.N a)).k) 0 ((-129, 0, 0) : Int32 × Int32 × Nat)).1 else (hv (2 * (itr (jst (gOf (X.N n) (X.N a)) y x (poS X a c)) ((gOf (X.N n) (X.N a)).k * (gOf (X.N n) (X.N a)).k) 0 ((-129, 0, 0) : Int32 × Int32 × Nat)).2.1.toInt64) (2 * (nI (itr (jst (gOf (X.N n) (X.N a)) y x (poS X a c)) ((gOf (X.N n) (X.N a)).k * (gOf (X.N n) (X.N a)).k) 0 ((-129, 0, 0) : Int32 × Int32 × Nat)).2.2).toInt64)).toInt32))) ∧ h' = rv b A X) 183 [some (.ref (A 0)), some (.int (nI n)), some (.int (nI a)), some (.int (nI y)), some (.int (nI x)), some (.int (nI c)), some (.int (nI (gOf (X.N n) (X.N a)).k)), some (.int s'.1), some (.int s'.2.1), some (.int (nI s'.2.2)), some (.int (nI (j))), none, none, none] [] (rv b A X) (0, 0) := by
        intro s' hS
        have hh : itr (jst (gOf (X.N n) (X.N a)) y x (poS X a c)) k1 (j + 1) (jst (gOf (X.N n) (X.N a)) y x (poS X a c) j s) = _ := hs
        rw [hS] at hh
        refine rk_iinc dR_pooled_183 rfl (inc1 j) (Nat.le_of_ble_eq_true rfl) ?_
        refine rk_goto 26 dR_pooled_186 (by decide) ?_
        exact ih (j + 1) s' (by omega) hh
      by_cases hin : (((gOf (X.N n) (X.N a)).rb ≤ y * (gOf (X.N n) (X.N a)).sp + j / (gOf (X.N n) (X.N a)).k ∧ y * (gOf (X.N n) (X.N a)).sp + j / (gOf (X.N n) (X.N a)).k - (gOf (X.N n) (X.N a)).rb < (gOf (X.N n) (X.N a)).oh) ∧ ((gOf (X.N n) (X.N a)).cb ≤ x * (gOf (X.N n) (X.N a)).sp + j % (gOf (X.N n) (X.N a)).k ∧ x * (gOf (X.N n) (X.N a)).sp + j % (gOf (X.N n) (X.N a)).k - (gOf (X.N n) (X.N a)).cb < (gOf (X.N n) (X.N a)).ow))
      · have eS := jst_y (s := poS X a c) (a := s) hin
        have hl := hin
        rw [eoh, eow] at hl
        have hce := ba.ce
        unfold aN.ce at hce
        have hr1 : ouB (nI (y * (gOf (X.N n) (X.N a)).sp + j / (gOf (X.N n) (X.N a)).k - (gOf (X.N n) (X.N a)).rb)) (nI (X.N a).h) = false := ouB_f.mpr ⟨nI_pos' (by omega), nI_lt hl.1.2 (by omega)⟩
        have hr2 : ouB (nI (x * (gOf (X.N n) (X.N a)).sp + j % (gOf (X.N n) (X.N a)).k - (gOf (X.N n) (X.N a)).cb)) (nI (X.N a).w) = false := ouB_f.mpr ⟨nI_pos' (by omega), nI_lt hl.2.2 (by omega)⟩
        generalize hr : y * (gOf (X.N n) (X.N a)).sp + j / (gOf (X.N n) (X.N a)).k - (gOf (X.N n) (X.N a)).rb = r at *
        generalize hq : x * (gOf (X.N n) (X.N a)).sp + j % (gOf (X.N n) (X.N a)).k - (gOf (X.N n) (X.N a)).cb = q at *
        have hidx := ix3 (A := (X.N a).h) (a := r) (B := (X.N a).w) (b := q) (C := (X.N a).c) (c := c) hl.1.2 hl.2.2 hc
        unfold poS at eS
        have T : ∀ v, v = X.ce (128 * a + (r * (X.N a).w + q) * (X.N a).c + c) → ∀ m, m = (if s.1 < v then v else s.1) → rk_Run mR_pooled (3, 44, 0, 0) (fun r h' => r = .inl (some (.int (if (X.N n).kd = 7 then (itr (jst (gOf (X.N n) (X.N a)) y x (poS X a c)) ((gOf (X.N n) (X.N a)).k * (gOf (X.N n) (X.N a)).k) 0 ((-129, 0, 0) : Int32 × Int32 × Nat)).1 else (hv (2 * (itr (jst (gOf (X.N n) (X.N a)) y x (poS X a c)) ((gOf (X.N n) (X.N a)).k * (gOf (X.N n) (X.N a)).k) 0 ((-129, 0, 0) : Int32 × Int32 × Nat)).2.1.toInt64) (2 * (nI (itr (jst (gOf (X.N n) (X.N a)) y x (poS X a c)) ((gOf (X.N n) (X.N a)).k * (gOf (X.N n) (X.N a)).k) 0 ((-129, 0, 0) : Int32 × Int32 × Nat)).2.2).toInt64)).toInt32))) ∧ h' = rv b A X) 173 [some (.ref (A 0)), some (.int (nI n)), some (.int (nI a)), some (.int (nI y)), some (.int (nI x)), some (.int (nI c)), some (.int (nI (gOf (X.N n) (X.N a)).k)), some (.int m), some (.int s.2.1), some (.int (nI s.2.2)), some (.int (nI j)), none, none, some (.int v)] [] (rv b A X) (0, 0) := by
          intro v hv' m hm
          subst hm hv'
          have e := nx _ eS
          refine rk_iload dR_pooled_173 rfl ?_
          refine rk_iload dR_pooled_175 rfl ?_
          refine rk_iadd dR_pooled_177 ?_
          refine rk_istore dR_pooled_178 (Nat.le_of_ble_eq_true rfl) ?_
          refine rk_iinc dR_pooled_180 rfl (inc1 s.2.2) (Nat.le_of_ble_eq_true rfl) ?_
          refine rk_lv [some (.ref (A 0)), some (.int (nI n)), some (.int (nI a)), some (.int (nI y)), some (.int (nI x)), some (.int (nI c)), some (.int (nI (gOf (X.N n) (X.N a)).k)), some (.int (if s.1 < X.ce (128 * a + (r * (X.N a).w + q) * (X.N a).c + c) then X.ce (128 * a + (r * (X.N a).w + q) * (X.N a).c + c) else s.1)), some (.int (s.2.1 + X.ce (128 * a + (r * (X.N a).w + q) * (X.N a).c + c))), some (.int (nI (s.2.2 + 1))), some (.int (nI (j))), none, none, none] ⟨rfl, rfl, rfl, rfl, rfl, rfl, rfl, rfl, rfl, rfl, rfl, trivial⟩ ?_
          exact e
        refine rk_iload dR_pooled_26 rfl ?_
        refine rk_iload dR_pooled_28 rfl ?_
        refine rk_iload dR_pooled_30 rfl ?_
        refine rk_imul dR_pooled_32 ?_
        rw [pk_mul]
        refine rk_icmp_ge 189 dR_pooled_33 (by decide) (fun q_33 => (by exact absurd q_33 (nI_ge (by omega) (by omega)))) (fun q_33 => ?_)
        refine rk_iload_n dR_pooled_36 rfl ?_
        refine rk_aload_n dR_pooled_37 rfl ?_
        refine rk_aload_n dR_pooled_38 rfl ?_
        refine rk_getf fR_42 dR_pooled_39 k.m rfl ?_
        refine rk_iload_n dR_pooled_42 rfl ?_
        refine rk_iald dR_pooled_43 k.co (vp_in_nI (show n < 14 by omega) (by omega)) ?_
        rw [nI_clamp (show n < 2 ^ 31 by omega)]
        refine rk_cvV (c_R_stride b A X (X.N n).co (by omega)) cR_121 dR_pooled_44 rfl lR_stride (Nat.le_of_ble_eq_true rfl) (Nat.le_of_ble_eq_true rfl) (Nat.le_of_ble_eq_true rfl) (Nat.le_of_ble_eq_true rfl) k.m ?_
        refine rk_imul dR_pooled_47 ?_
        rw [es, pk_mul]
        refine rk_aload_n dR_pooled_48 rfl ?_
        refine rk_aload_n dR_pooled_49 rfl ?_
        refine rk_getf fR_26 dR_pooled_50 k.m rfl ?_
        refine rk_iload_n dR_pooled_53 rfl ?_
        refine rk_iald dR_pooled_54 k.hi (vp_in_nI (show a < 14 by omega) (by omega)) ?_
        rw [nI_clamp (show a < 2 ^ 31 by omega)]
        refine rk_aload_n dR_pooled_55 rfl ?_
        refine rk_getf fR_42 dR_pooled_56 k.m rfl ?_
        refine rk_iload_n dR_pooled_59 rfl ?_
        refine rk_iald dR_pooled_60 k.co (vp_in_nI (show n < 14 by omega) (by omega)) ?_
        rw [nI_clamp (show n < 2 ^ 31 by omega)]
        refine rk_cvV (c_R_before b A X k (X.N n).co (X.N a).h (by omega) oh1 bah fh) cR_198 dR_pooled_61 rfl lR_before (Nat.le_of_ble_eq_true rfl) (Nat.le_of_ble_eq_true rfl) (Nat.le_of_ble_eq_true rfl) (Nat.le_of_ble_eq_true rfl) k.m ?_
        rw [er]
        refine rk_isub dR_pooled_64 ?_
        refine rk_iload dR_pooled_65 rfl ?_
        refine rk_iload dR_pooled_67 rfl ?_
        refine rk_idiv dR_pooled_69 (nI_ne0 (by omega) (by omega)) ?_
        rw [pk_div (by omega) (by omega) (by omega)]
        refine rk_iadd dR_pooled_70 ?_
        rw [row_in hin.1.1, hr]
        refine rk_istore dR_pooled_71 (Nat.le_of_ble_eq_true rfl) ?_
        refine rk_iload dR_pooled_73 rfl ?_
        refine rk_aload_n dR_pooled_75 rfl ?_
        refine rk_aload_n dR_pooled_76 rfl ?_
        refine rk_getf fR_42 dR_pooled_77 k.m rfl ?_
        refine rk_iload_n dR_pooled_80 rfl ?_
        refine rk_iald dR_pooled_81 k.co (vp_in_nI (show n < 14 by omega) (by omega)) ?_
        rw [nI_clamp (show n < 2 ^ 31 by omega)]
        refine rk_cvV (c_R_stride b A X (X.N n).co (by omega)) cR_121 dR_pooled_82 rfl lR_stride (Nat.le_of_ble_eq_true rfl) (Nat.le_of_ble_eq_true rfl) (Nat.le_of_ble_eq_true rfl) (Nat.le_of_ble_eq_true rfl) k.m ?_
        refine rk_imul dR_pooled_85 ?_
        rw [es, pk_mul]
        refine rk_aload_n dR_pooled_86 rfl ?_
        refine rk_aload_n dR_pooled_87 rfl ?_
        refine rk_getf fR_29 dR_pooled_88 k.m rfl ?_
        refine rk_iload_n dR_pooled_91 rfl ?_
        refine rk_iald dR_pooled_92 k.wi (vp_in_nI (show a < 14 by omega) (by omega)) ?_
        rw [nI_clamp (show a < 2 ^ 31 by omega)]
        refine rk_aload_n dR_pooled_93 rfl ?_
        refine rk_getf fR_42 dR_pooled_94 k.m rfl ?_
        refine rk_iload_n dR_pooled_97 rfl ?_
        refine rk_iald dR_pooled_98 k.co (vp_in_nI (show n < 14 by omega) (by omega)) ?_
        rw [nI_clamp (show n < 2 ^ 31 by omega)]
        refine rk_cvV (c_R_before b A X k (X.N n).co (X.N a).w (by omega) ow1 baw fw) cR_198 dR_pooled_99 rfl lR_before (Nat.le_of_ble_eq_true rfl) (Nat.le_of_ble_eq_true rfl) (Nat.le_of_ble_eq_true rfl) (Nat.le_of_ble_eq_true rfl) k.m ?_
        rw [ec]
        refine rk_isub dR_pooled_102 ?_
        refine rk_iload dR_pooled_103 rfl ?_
        refine rk_iload dR_pooled_105 rfl ?_
        refine rk_irem dR_pooled_107 (nI_ne0 (by omega) (by omega)) ?_
        rw [pk_rem (by omega) (by omega) (by omega)]
        refine rk_iadd dR_pooled_108 ?_
        rw [row_in hin.2.1, hq]
        refine rk_istore dR_pooled_109 (Nat.le_of_ble_eq_true rfl) ?_
        refine rk_aload_n dR_pooled_111 rfl ?_
        refine rk_iload dR_pooled_112 rfl ?_
        refine rk_aload_n dR_pooled_114 rfl ?_
        refine rk_getf fR_26 dR_pooled_115 k.m rfl ?_
        refine rk_iload_n dR_pooled_118 rfl ?_
        refine rk_iald dR_pooled_119 k.hi (vp_in_nI (show a < 14 by omega) (by omega)) ?_
        rw [nI_clamp (show a < 2 ^ 31 by omega)]
        refine rk_cvV (c_R_out b A X (nI r) (nI (X.N a).h)) cR_94 dR_pooled_120 rfl lR_out (Nat.le_of_ble_eq_true rfl) (Nat.le_of_ble_eq_true rfl) (Nat.le_of_ble_eq_true rfl) (Nat.le_of_ble_eq_true rfl) k.m ?_
        refine rk_if_ne 183 dR_pooled_123 (by decide) (fun q_123 => (by exact absurd (by rw [hr1]; rfl) q_123)) (fun q_123 => ?_)
        refine rk_aload_n dR_pooled_126 rfl ?_
        refine rk_iload dR_pooled_127 rfl ?_
        refine rk_aload_n dR_pooled_129 rfl ?_
        refine rk_getf fR_29 dR_pooled_130 k.m rfl ?_
        refine rk_iload_n dR_pooled_133 rfl ?_
        refine rk_iald dR_pooled_134 k.wi (vp_in_nI (show a < 14 by omega) (by omega)) ?_
        rw [nI_clamp (show a < 2 ^ 31 by omega)]
        refine rk_cvV (c_R_out b A X (nI q) (nI (X.N a).w)) cR_94 dR_pooled_135 rfl lR_out (Nat.le_of_ble_eq_true rfl) (Nat.le_of_ble_eq_true rfl) (Nat.le_of_ble_eq_true rfl) (Nat.le_of_ble_eq_true rfl) k.m ?_
        refine rk_if_eq 144 dR_pooled_138 (by decide) (fun q_138 => ?_) (fun q_138 => (by exact absurd (by rw [hr2]; rfl) q_138))
        refine rk_aload_n dR_pooled_144 rfl ?_
        refine rk_iload_n dR_pooled_145 rfl ?_
        refine rk_iload dR_pooled_146 rfl ?_
        refine rk_iload dR_pooled_148 rfl ?_
        refine rk_iload dR_pooled_150 rfl ?_
        refine rk_cvV (c_R_at b A X k a r q c ha (by omega)) cR_201 dR_pooled_152 rfl lR_at (Nat.le_of_ble_eq_true rfl) (Nat.le_of_ble_eq_true rfl) (Nat.le_of_ble_eq_true rfl) (Nat.le_of_ble_eq_true rfl) k.m ?_
        refine rk_istore dR_pooled_155 (Nat.le_of_ble_eq_true rfl) ?_
        skip
        refine rk_iload dR_pooled_157 rfl ?_
        refine rk_iload dR_pooled_159 rfl ?_
        refine rk_icmp_le 169 dR_pooled_161 (by decide) (fun q_161 => ?_) (fun q_161 => ?_)
        · refine rk_iload dR_pooled_169 rfl ?_
          refine rk_istore dR_pooled_171 (Nat.le_of_ble_eq_true rfl) ?_
          refine rk_lv [some (.ref (A 0)), some (.int (nI n)), some (.int (nI a)), some (.int (nI y)), some (.int (nI x)), some (.int (nI c)), some (.int (nI (gOf (X.N n) (X.N a)).k)), some (.int _), some (.int s.2.1), some (.int (nI s.2.2)), some (.int (nI j)), none, none, some (.int (X.ce (128 * a + (r * (X.N a).w + q) * (X.N a).c + c)))] ⟨rfl, rfl, rfl, rfl, rfl, rfl, rfl, rfl, rfl, rfl, rfl, rfl, trivial⟩ ?_
          exact T _ rfl _ (by first | rw [if_pos (Int32.not_le.mp q_161)] | rw [if_neg (Int32.not_lt.mpr q_161)])
        · refine rk_iload dR_pooled_164 rfl ?_
          refine rk_goto 171 dR_pooled_166 (by decide) ?_
          refine rk_istore dR_pooled_171 (Nat.le_of_ble_eq_true rfl) ?_
          refine rk_lv [some (.ref (A 0)), some (.int (nI n)), some (.int (nI a)), some (.int (nI y)), some (.int (nI x)), some (.int (nI c)), some (.int (nI (gOf (X.N n) (X.N a)).k)), some (.int _), some (.int s.2.1), some (.int (nI s.2.2)), some (.int (nI j)), none, none, some (.int (X.ce (128 * a + (r * (X.N a).w + q) * (X.N a).c + c)))] ⟨rfl, rfl, rfl, rfl, rfl, rfl, rfl, rfl, rfl, rfl, rfl, rfl, trivial⟩ ?_
          exact T _ rfl _ (by first | rw [if_pos (Int32.not_le.mp q_161)] | rw [if_neg (Int32.not_lt.mpr q_161)])
      · have eS := jst_n (s := poS X a c) (a := s) hin
        rw [eoh, eow] at hin
        refine rk_iload dR_pooled_26 rfl ?_
        refine rk_iload dR_pooled_28 rfl ?_
        refine rk_iload dR_pooled_30 rfl ?_
        refine rk_imul dR_pooled_32 ?_
        rw [pk_mul]
        refine rk_icmp_ge 189 dR_pooled_33 (by decide) (fun q_33 => ?_) (fun q_33 => ?_)
        · exact absurd q_33 (nI_ge (by omega) (by omega))
        · refine rk_iload_n dR_pooled_36 rfl ?_
          refine rk_aload_n dR_pooled_37 rfl ?_
          refine rk_aload_n dR_pooled_38 rfl ?_
          refine rk_getf fR_42 dR_pooled_39 k.m rfl ?_
          refine rk_iload_n dR_pooled_42 rfl ?_
          refine rk_iald dR_pooled_43 k.co (vp_in_nI (show n < 14 by omega) (by omega)) ?_
          rw [nI_clamp (show n < 2 ^ 31 by omega)]
          refine rk_cvV (c_R_stride b A X (X.N n).co (by omega)) cR_121 dR_pooled_44 rfl lR_stride (Nat.le_of_ble_eq_true rfl) (Nat.le_of_ble_eq_true rfl) (Nat.le_of_ble_eq_true rfl) (Nat.le_of_ble_eq_true rfl) k.m ?_
          refine rk_imul dR_pooled_47 ?_
          rw [es, pk_mul]
          refine rk_aload_n dR_pooled_48 rfl ?_
          refine rk_aload_n dR_pooled_49 rfl ?_
          refine rk_getf fR_26 dR_pooled_50 k.m rfl ?_
          refine rk_iload_n dR_pooled_53 rfl ?_
          refine rk_iald dR_pooled_54 k.hi (vp_in_nI (show a < 14 by omega) (by omega)) ?_
          rw [nI_clamp (show a < 2 ^ 31 by omega)]
          refine rk_aload_n dR_pooled_55 rfl ?_
          refine rk_getf fR_42 dR_pooled_56 k.m rfl ?_
          refine rk_iload_n dR_pooled_59 rfl ?_
          refine rk_iald dR_pooled_60 k.co (vp_in_nI (show n < 14 by omega) (by omega)) ?_
          rw [nI_clamp (show n < 2 ^ 31 by omega)]
          refine rk_cvV (c_R_before b A X k (X.N n).co (X.N a).h (by omega) oh1 bah fh) cR_198 dR_pooled_61 rfl lR_before (Nat.le_of_ble_eq_true rfl) (Nat.le_of_ble_eq_true rfl) (Nat.le_of_ble_eq_true rfl) (Nat.le_of_ble_eq_true rfl) k.m ?_
          rw [er]
          refine rk_isub dR_pooled_64 ?_
          refine rk_iload dR_pooled_65 rfl ?_
          refine rk_iload dR_pooled_67 rfl ?_
          refine rk_idiv dR_pooled_69 (nI_ne0 (by omega) (by omega)) ?_
          rw [pk_div (by omega) (by omega) (by omega)]
          refine rk_iadd dR_pooled_70 ?_
          refine rk_istore dR_pooled_71 (Nat.le_of_ble_eq_true rfl) ?_
          refine rk_iload dR_pooled_73 rfl ?_
          refine rk_aload_n dR_pooled_75 rfl ?_
          refine rk_aload_n dR_pooled_76 rfl ?_
          refine rk_getf fR_42 dR_pooled_77 k.m rfl ?_
          refine rk_iload_n dR_pooled_80 rfl ?_
          refine rk_iald dR_pooled_81 k.co (vp_in_nI (show n < 14 by omega) (by omega)) ?_
          rw [nI_clamp (show n < 2 ^ 31 by omega)]
          refine rk_cvV (c_R_stride b A X (X.N n).co (by omega)) cR_121 dR_pooled_82 rfl lR_stride (Nat.le_of_ble_eq_true rfl) (Nat.le_of_ble_eq_true rfl) (Nat.le_of_ble_eq_true rfl) (Nat.le_of_ble_eq_true rfl) k.m ?_
          refine rk_imul dR_pooled_85 ?_
          rw [es, pk_mul]
          refine rk_aload_n dR_pooled_86 rfl ?_
          refine rk_aload_n dR_pooled_87 rfl ?_
          refine rk_getf fR_29 dR_pooled_88 k.m rfl ?_
          refine rk_iload_n dR_pooled_91 rfl ?_
          refine rk_iald dR_pooled_92 k.wi (vp_in_nI (show a < 14 by omega) (by omega)) ?_
          rw [nI_clamp (show a < 2 ^ 31 by omega)]
          refine rk_aload_n dR_pooled_93 rfl ?_
          refine rk_getf fR_42 dR_pooled_94 k.m rfl ?_
          refine rk_iload_n dR_pooled_97 rfl ?_
          refine rk_iald dR_pooled_98 k.co (vp_in_nI (show n < 14 by omega) (by omega)) ?_
          rw [nI_clamp (show n < 2 ^ 31 by omega)]
          refine rk_cvV (c_R_before b A X k (X.N n).co (X.N a).w (by omega) ow1 baw fw) cR_198 dR_pooled_99 rfl lR_before (Nat.le_of_ble_eq_true rfl) (Nat.le_of_ble_eq_true rfl) (Nat.le_of_ble_eq_true rfl) (Nat.le_of_ble_eq_true rfl) k.m ?_
          rw [ec]
          refine rk_isub dR_pooled_102 ?_
          refine rk_iload dR_pooled_103 rfl ?_
          refine rk_iload dR_pooled_105 rfl ?_
          refine rk_irem dR_pooled_107 (nI_ne0 (by omega) (by omega)) ?_
          rw [pk_rem (by omega) (by omega) (by omega)]
          refine rk_iadd dR_pooled_108 ?_
          refine rk_istore dR_pooled_109 (Nat.le_of_ble_eq_true rfl) ?_
          refine rk_aload_n dR_pooled_111 rfl ?_
          refine rk_iload dR_pooled_112 rfl ?_
          refine rk_aload_n dR_pooled_114 rfl ?_
          refine rk_getf fR_26 dR_pooled_115 k.m rfl ?_
          refine rk_iload_n dR_pooled_118 rfl ?_
          refine rk_iald dR_pooled_119 k.hi (vp_in_nI (show a < 14 by omega) (by omega)) ?_
          rw [nI_clamp (show a < 2 ^ 31 by omega)]
          refine rk_cvV (c_R_out b A X _ (nI (X.N a).h)) cR_94 dR_pooled_120 rfl lR_out (Nat.le_of_ble_eq_true rfl) (Nat.le_of_ble_eq_true rfl) (Nat.le_of_ble_eq_true rfl) (Nat.le_of_ble_eq_true rfl) k.m ?_
          rw [ou_row (by omega) (by omega) (by omega)]
          refine rk_if_ne 183 dR_pooled_123 (by decide) (fun q_123 => ?_) (fun q_123 => ?_)
          · refine rk_lv [some (.ref (A 0)), some (.int (nI n)), some (.int (nI a)), some (.int (nI y)), some (.int (nI x)), some (.int (nI c)), some (.int (nI (gOf (X.N n) (X.N a)).k)), some (.int s.1), some (.int s.2.1), some (.int (nI s.2.2)), some (.int (nI (j))), none, none, none] ⟨rfl, rfl, rfl, rfl, rfl, rfl, rfl, rfl, rfl, rfl, rfl, trivial⟩ ?_
            exact nx s eS
          · refine rk_aload_n dR_pooled_126 rfl ?_
            refine rk_iload dR_pooled_127 rfl ?_
            refine rk_aload_n dR_pooled_129 rfl ?_
            refine rk_getf fR_29 dR_pooled_130 k.m rfl ?_
            refine rk_iload_n dR_pooled_133 rfl ?_
            refine rk_iald dR_pooled_134 k.wi (vp_in_nI (show a < 14 by omega) (by omega)) ?_
            rw [nI_clamp (show a < 2 ^ 31 by omega)]
            refine rk_cvV (c_R_out b A X _ (nI (X.N a).w)) cR_94 dR_pooled_135 rfl lR_out (Nat.le_of_ble_eq_true rfl) (Nat.le_of_ble_eq_true rfl) (Nat.le_of_ble_eq_true rfl) (Nat.le_of_ble_eq_true rfl) k.m ?_
            rw [ou_row (by omega) (by omega) (by omega)]
            refine rk_if_eq 144 dR_pooled_138 (by decide) (fun q_138 => ?_) (fun q_138 => ?_)
            · exact absurd ⟨of_decide_eq_true (b2n q_123), of_decide_eq_true (b2n q_138)⟩ hin
            · refine rk_goto 183 dR_pooled_141 (by decide) ?_
              refine rk_lv [some (.ref (A 0)), some (.int (nI n)), some (.int (nI a)), some (.int (nI y)), some (.int (nI x)), some (.int (nI c)), some (.int (nI (gOf (X.N n) (X.N a)).k)), some (.int s.1), some (.int s.2.1), some (.int (nI s.2.2)), some (.int (nI (j))), none, none, none] ⟨rfl, rfl, rfl, rfl, rfl, rfl, rfl, rfl, rfl, rfl, rfl, trivial⟩ ?_
              exact nx s eS
  refine rk_Con.of [some (.ref (A 0)), some (.int (nI n)), some (.int (nI a)), some (.int (nI y)), some (.int (nI x)), some (.int (nI c)), none, none, none, none, none, none, none, none] rfl (Nat.le_of_ble_eq_true rfl) (by decide +kernel) ?_
  refine rk_aload_n dR_pooled_0 rfl ?_
  refine rk_aload_n dR_pooled_1 rfl ?_
  refine rk_getf fR_42 dR_pooled_2 k.m rfl ?_
  refine rk_iload_n dR_pooled_5 rfl ?_
  refine rk_iald dR_pooled_6 k.co (vp_in_nI (show n < 14 by omega) (by omega)) ?_
  rw [nI_clamp (show n < 2 ^ 31 by omega)]
  refine rk_cvV (c_R_side b A X (X.N n).co (by omega)) cR_124 dR_pooled_7 rfl lR_side (Nat.le_of_ble_eq_true rfl) (Nat.le_of_ble_eq_true rfl) (Nat.le_of_ble_eq_true rfl) (Nat.le_of_ble_eq_true rfl) k.m ?_
  rw [ek]
  refine rk_istore dR_pooled_10 (Nat.le_of_ble_eq_true rfl) ?_
  refine rk_sipush (v := -129) dR_pooled_12 (by decide) ?_
  refine rk_istore dR_pooled_15 (Nat.le_of_ble_eq_true rfl) ?_
  refine rk_iconst (v := 0) dR_pooled_17 (by decide) ?_
  refine rk_istore dR_pooled_18 (Nat.le_of_ble_eq_true rfl) ?_
  refine rk_iconst (v := 0) dR_pooled_20 (by decide) ?_
  refine rk_istore dR_pooled_21 (Nat.le_of_ble_eq_true rfl) ?_
  refine rk_iconst (v := 0) dR_pooled_23 (by decide) ?_
  refine rk_istore dR_pooled_24 (Nat.le_of_ble_eq_true rfl) ?_
  refine rk_lv [some (.ref (A 0)), some (.int (nI n)), some (.int (nI a)), some (.int (nI y)), some (.int (nI x)), some (.int (nI c)), some (.int (nI (gOf (X.N n) (X.N a)).k)), some (.int (-129)), some (.int 0), some (.int (nI 0)), some (.int (nI (0))), none, none, none] ⟨rfl, rfl, rfl, rfl, rfl, rfl, rfl, rfl, rfl, rfl, rfl, trivial⟩ ?_
  exact loop _ 0 ((-129, 0, 0) : Int32 × Int32 × Nat) (Nat.zero_add _) rfl
