/-! the reference: compile -/
theorem hitB_congr {N : Nat → aN} {T L L' : Nat → Nat} {PT : Nat → Option Nat} {x t m : Nat} (h : ∀ q, PT m = some q → togB T L x m = togB T L' x m) : hitB N T L PT x t m = hitB N T L' PT x t m := by
  unfold hitB
  cases hp : PT m with
  | none => rfl
  | some q => dsimp only; rw [h q hp]
theorem plT_congr {N : Nat → aN} {R T L L' : Nat → Nat} {n : Nat} (hbd : bdOK N n) (h : ∀ x m, x < n → m < n → R x = 2 → R m = 2 → togB T L x m = togB T L' x m) : ∀ r : Nat, r ≤ 14 → plT N R T L n r = plT N R T L' n r := by
  intro r
  induction r with
  | zero => intro _; rfl
  | succ r ih =>
    intro hr
    have hK := (plT_all (N := N) (R := R) (T := T) (L := L') (n := n) hbd r (by omega)).1.1
    rw [plT_s, plT_s, ih (by omega)]
    generalize plT N R T L' n r = q at hK
    unfold plS
    cases hb : bigO N R n q.1 with
    | none => rfl
    | some x =>
      obtain ⟨b1, b2, b3⟩ := bigO_ok hb
      have e : lfS N T L n q.1 x = lfS N T L' n q.1 x := by
        unfold lfS
        refine fstA_congr (fun t _ _ => ?_)
        unfold freeB
        rw [fstA_congr (q := hitB N T L' q.1 x t) (fun m _ hm => hitB_congr (fun z hz => h x m b1 (by omega) b2 (hK m z hz).1.2))]
      dsimp only
      rw [e]
theorem lvR_tog {N : Nat → aN} {n out x m : Nat} (hx : x < n) (hm : m < n) (rx : pR N n out x = 2) (rm : pR N n out m = 2) : togB (pT N n out) (lvR N n out) x m = togB (pT N n out) (pL N n out) x m := by
  have key : ∀ a c, a < n → pR N n out a = 2 → decide (pT N n out a ≤ lvR N n out c) = decide (pT N n out a ≤ pL N n out c) := by
    intro a c ha hr
    have := cnt_pos ha hr
    rw [decide_eq_decide]
    unfold lvR pL lvF pT pO
    by_cases hc : c = stS N out
    · rw [if_pos hc, if_pos hc]; omega
    · rw [if_neg hc, if_neg hc]
  unfold togB
  rw [key x m hx rx, key m x hm rm]
theorem lvR_b {N : Nat → aN} {n out i : Nat} (hn : n ≤ 14) (hi : i < n) : lvR N n out i ≤ 14 := by
  unfold lvR
  by_cases hc : i = stS N out
  · rw [if_pos hc]
    have := cnt_le (R := pR N n out) (k := n)
    omega
  · rw [if_neg hc]
    have := lvF_le (N := N) (S := stS N) (R := pR N n out) (o := stS N out) hi
    unfold lvF at this
    rw [if_neg hc] at this
    omega
theorem c_R_compile (b : rk_H) (A : Nat → Nat) (X : rX) (s : aS) (k : rA A) (kX : rOK X s) (ok : aOK s) : rk_Con mR_compile (3, 48, 0, 0) [.ref (A 0)] (rv b A X) (rPo b A (some (.int 0)) (opCompile s)) := by
  have hn := ok.1.1
  have hwf := ok.1.2.1
  have hbd := hwf.bd
  have hin := hwf.inn
  refine rk_Con.of [some (.ref (A 0)), none] rfl (Nat.le_of_ble_eq_true rfl) (by decide +kernel) ?_
  refine rk_aload_n dR_compile_0 rfl ?_
  refine rk_iconst (v := 0) dR_compile_1 (by decide) ?_
  refine rk_putf pR_85 dR_compile_2 k.m (Nat.le_of_ble_eq_true rfl) rfl rfl ?_
  rw [k.ufa]
  skip
  have kY : rOK (X.wfa 0) s := kX
  have hfa : (X.wfa 0).fa = 0 := rfl
  generalize X.wfa 0 = Y at kY hfa ⊢
  obtain ⟨⟨a1, a2, a3, a4⟩, ⟨b1, b2⟩, c1, d1, e1, f1⟩ := id kY
  cases ho : s.out with
  | none =>
    refine rk_aload_n dR_compile_5 rfl ?_
    refine rk_getf fR_60 dR_compile_6 k.m rfl ?_
    rw [b1, ho]
    refine rk_if_ge 18 dR_compile_9 (by decide) (fun q_9 => ?_) (fun q_9 => ?_)
    · exact absurd q_9 (by decide)
    · refine rk_aload_n dR_compile_12 rfl ?_
      refine rk_iconst (v := 1) dR_compile_13 (by decide) ?_
      refine rk_cvV (c_R_fail b A Y k 1) cR_98 dR_compile_14 rfl lR_fail (Nat.le_of_ble_eq_true rfl) (Nat.le_of_ble_eq_true rfl) (Nat.le_of_ble_eq_true rfl) (Nat.le_of_ble_eq_true rfl) k.m ?_
      exact rk_iret rfl dR_compile_17 ⟨(Nat.le_of_ble_eq_true rfl), (Nat.le_of_ble_eq_true rfl)⟩ (rPo.fl (c := 1) kY (by unfold opCompile; rw [ho]) (by decide))
  | some o =>
    have hol := ok.2.1 o ho
    have hno : Y.no ≤ 14 := by rw [a2]; exact hn
    have hwf' : wfN Y.N Y.no := by rw [a1, a2]; exact hwf
    have hin' := wfN.inn hwf'
    have hbd' := wfN.bd hwf'
    have hol' : o < Y.no := by rw [a2]; exact hol
    have hSl := stS_le hin'
    have hou : Y.ou = some o := by rw [b1, ho]
    have fin : ∀ (f : Nat → Int32), sfK f (stS Y.N) Y.no → rk_Run mR_compile (3, 48, 0, 0) (rPo b A (some (.int 0)) (opCompile s)) 39 [some (.ref (A 0)), none] [] (rv b A (Y.wst f)) (0, 0) := by
      intro f hf
      refine rk_aload_n dR_compile_39 rfl ?_
      refine rk_cvG (c_R_findRoles b A (Y.wst f) k (stS Y.N) o hno hou hol' hwf' hf hSl) cR_169 dR_compile_40 rfl lR_findRoles (Nat.le_of_ble_eq_true rfl) (Nat.le_of_ble_eq_true rfl) (Nat.le_of_ble_eq_true rfl) (Nat.le_of_ble_eq_true rfl) k.m ?_
      rintro r_40 h_40 ⟨rfl, f2, rfl, hf2⟩\nhave hf2 : sfK f2 (pR Y.N Y.no o) Y.no := hf2
      refine rk_nx0 ?_
      refine rk_aload_n dR_compile_43 rfl ?_
      refine rk_cvG (c_R_findLives b A ((Y.wst f).wro f2) k o hno hou hol' hwf' hf hf2) cR_172 dR_compile_44 rfl lR_findLives (Nat.le_of_ble_eq_true rfl) (Nat.le_of_ble_eq_true rfl) (Nat.le_of_ble_eq_true rfl) (Nat.le_of_ble_eq_true rfl) k.m ?_
      rintro r_44 h_44 ⟨rfl, sp, la, rfl, hsp, hla⟩\nhave hsp : plK sp (pR Y.N Y.no o) (pT Y.N Y.no o) Y.no := hsp\nhave hla : plK la (pR Y.N Y.no o) (lvR Y.N Y.no o) Y.no := hla
      refine rk_nx0 ?_
      refine rk_aload_n dR_compile_47 rfl ?_
      refine rk_cvG (c_R_plan b A _ k (pR Y.N Y.no o) (pT Y.N Y.no o) (lvR Y.N Y.no o) hno hbd' hf2 (pR_le Y.N Y.no o) hsp hla (fun i hi => by have := cnt_le (R := pR Y.N Y.no o) (k := i); unfold pT; omega) (fun i hi => lvR_b hno hi) rfl) cR_175 dR_compile_48 rfl lR_plan (Nat.le_of_ble_eq_true rfl) (Nat.le_of_ble_eq_true rfl) (Nat.le_of_ble_eq_true rfl) (Nat.le_of_ble_eq_true rfl) k.m ?_
      rintro r_48 h_48 ⟨rfl, f3, rfl, hf3⟩
      refine rk_nx0 ?_
      refine rk_aload_n dR_compile_51 rfl ?_
      refine rk_iconst (v := 1) dR_compile_52 (by decide) ?_
      refine rk_putf pR_109 dR_compile_53 k.m (Nat.le_of_ble_eq_true rfl) rfl rfl ?_
      first | rw [k.ucm0] | rw [k.ucm1]
      skip
      have ept := plT_congr (R := pR Y.N Y.no o) (T := pT Y.N Y.no o) hbd' (fun x m hx hm rx rm => lvR_tog hx hm rx rm) (cnt (pR Y.N Y.no o) Y.no) (by have := cnt_le (R := pR Y.N Y.no o) (k := Y.no); omega)
      refine rk_aload_n dR_compile_56 rfl ?_
      refine rk_getf fR_152 dR_compile_57 k.m rfl ?_
      exact rk_iret rfl dR_compile_60 ⟨(Nat.le_of_ble_eq_true rfl), (Nat.le_of_ble_eq_true rfl)⟩ (rPo.go (by unfold opCompile; rw [ho, ← a1, ← a2]; rfl) hfa ⟨⟨a1, a2, a3, a4⟩, ⟨b1, rfl⟩, c1, fun _ => ⟨o, ho, by rw [← a1, ← a2]; refine ⟨⟨hf, hf2⟩, hsp, ?_, rfl, ?_⟩; exact (show plR f3 (plT Y.N (pR Y.N Y.no o) (pT Y.N Y.no o) (pL Y.N Y.no o) Y.no (cnt (pR Y.N Y.no o) Y.no)).1 Y.no from ept ▸ hf3); exact congrArg (fun q => nI q.2) ept⟩, e1, f1⟩)
    have loop : ∀ (k1 i : Nat) (f : Nat → Int32), i + k1 = Y.no → sfK f (stS Y.N) i → rk_Run mR_compile (3, 48, 0, 0) (rPo b A (some (.int 0)) (opCompile s)) 20 [some (.ref (A 0)), some (.int (nI i))] [] (rv b A (Y.wst f)) (0, 0) := by
      intro k1
      induction k1 with
      | zero =>
        intro i f hi hf
        have hi : i = Y.no := by omega
        subst hi
        refine rk_iload_n dR_compile_20 rfl ?_
        refine rk_aload_n dR_compile_21 rfl ?_
        refine rk_getf fR_106 dR_compile_22 k.m rfl ?_
        refine rk_icmp_ge 39 dR_compile_25 (by decide) (fun q_25 => ?_) (fun q_25 => ?_)
        · refine rk_lv [some (.ref (A 0)), none] ⟨rfl, trivial⟩ ?_
          exact fin f hf
        · exact absurd (nI_le (Nat.le_refl _) (by omega)) q_25
      | succ k1 ih =>
        intro i f hi hf
        refine rk_iload_n dR_compile_20 rfl ?_
        refine rk_aload_n dR_compile_21 rfl ?_
        refine rk_getf fR_106 dR_compile_22 k.m rfl ?_
        refine rk_icmp_ge 39 dR_compile_25 (by decide) (fun q_25 => ?_) (fun q_25 => ?_)
        · exact absurd q_25 (nI_ge (by omega) (by omega))
        · refine rk_aload_n dR_compile_28 rfl ?_
          refine rk_iload_n dR_compile_29 rfl ?_
          refine rk_cv0 (c_R_findStands b A (Y.wst f) k (stS Y.N) i (by omega) (hwf' i (by omega)) (fun j hj => hin' j (by omega)) (fun j hj => hbd' j (by omega)) hf (fun j hj => hSl j (by omega))) cR_165 dR_compile_30 rfl lR_findStands (Nat.le_of_ble_eq_true rfl) (Nat.le_of_ble_eq_true rfl) (Nat.le_of_ble_eq_true rfl) (Nat.le_of_ble_eq_true rfl) k.m ?_
          refine rk_iinc dR_compile_33 rfl (inc1 i) (Nat.le_of_ble_eq_true rfl) ?_
          refine rk_goto 20 dR_compile_36 (by decide) ?_
          refine ih (i + 1) (upd f i (nI (stOf Y.N (stS Y.N) i))) (by omega) (fun j hj => ?_)
          unfold upd
          by_cases hz : j = i
          · rw [if_pos hz, hz, ← stS_eq hin' (show i < Y.no by omega)]
          · rw [if_neg hz]; exact hf j (by omega)
    refine rk_aload_n dR_compile_5 rfl ?_
    refine rk_getf fR_60 dR_compile_6 k.m rfl ?_
    rw [hou]
    refine rk_if_ge 18 dR_compile_9 (by decide) (fun q_9 => ?_) (fun q_9 => ?_)
    · refine rk_iconst (v := 0) dR_compile_18 (by decide) ?_
      refine rk_istore_n dR_compile_19 (Nat.le_of_ble_eq_true rfl) ?_
      exact loop Y.no 0 Y.st (by omega) (fun j hj => absurd hj (Nat.not_lt_zero _))
    · exact absurd (show 0 ≤ nI o from nI_pos' (by omega)) q_9
