/-! the reference: places -/
theorem c_R_hits (b : rk_H) (A : Nat → Nat) (X : rX) (k : rA A) (R T L : Nat → Nat) (x t m p : Nat) (hn : X.no ≤ 14) (hx : x < X.no) (hm : m < X.no) (hbd : bdOK X.N X.no) (hT : plK X.sp R T X.no) (hL : plK X.la R L X.no) (hTb : ∀ i, i < X.no → T i ≤ 14) (hLb : ∀ i, i < X.no → L i ≤ 14) (hrx : R x = 2) (hrm : R m = 2) (ht : t ≤ 1792) (hp : X.pl m = nI p) (hpb : p ≤ 1792) :
    rk_Con mR_hits (1, 15, 0, 0) [.ref (A 0), .int (nI x), .int (nI t), .int (nI m)] (rv b A X) (rk_Rv (.int (b2i (togB T L x m && decide (t < p + (X.N m).ce) && decide (p < t + (X.N x).ce)))) (rv b A X)) := by
  have b1 := hTb x hx
  have b2 := hTb m hm
  have b3 := hLb x hx
  have b4 := hLb m hm
  have cx := (hbd x hx).ce
  have cm := (hbd m hm).ce
  have j1 : nI (L m) < nI (T x) ↔ L m < T x := nI_ltI (by omega) (by omega)
  have j2 : nI (L x) < nI (T m) ↔ L x < T m := nI_ltI (by omega) (by omega)
  have j3 : nI (p + (X.N m).ce) ≤ nI t ↔ p + (X.N m).ce ≤ t := nI_leI (by omega) (by omega)
  have j4 : nI (t + (X.N x).ce) ≤ nI p ↔ t + (X.N x).ce ≤ p := nI_leI (by omega) (by omega)
  have tail : ∀ (g : Bool), rk_Run mR_hits (1, 15, 0, 0) (rk_Rv (.int (b2i (g && decide (t < p + (X.N m).ce) && decide (p < t + (X.N x).ce)))) (rv b A X)) 37 [some (.ref (A 0)), some (.int (nI x)), some (.int (nI t)), some (.int (nI m)), some (.int (b2i g))] [] (rv b A X) (0, 0) := by
    intro g
    refine rk_iload dR_hits_37 rfl ?_
    refine rk_if_eq 78 dR_hits_39 (by decide) (fun q_39 => ?_) (fun q_39 => ?_)
    · refine rk_iconst (v := 0) dR_hits_78 (by decide) ?_
      exact rk_zret rfl rfl dR_hits_79 ⟨(Nat.le_of_ble_eq_true rfl), (Nat.le_of_ble_eq_true rfl)⟩ (⟨by first | (rw [b2p q_39]; rfl) | (rw [decide_eq_false (p := t < p + (X.N m).ce) (by have := j3.mp q_55; omega), Bool.and_false]; rfl) | (rw [decide_eq_false (p := p < t + (X.N x).ce) (by have := j4.mp q_71; omega), Bool.and_false]; rfl) | (rw [b2p' q_39, decide_eq_true (show t < p + (X.N m).ce by have := mt j3.mpr q_55; omega), decide_eq_true (show p < t + (X.N x).ce by have := mt j4.mpr q_71; omega)]; rfl), rfl⟩)
    · refine rk_iload_n dR_hits_42 rfl ?_
      refine rk_aload_n dR_hits_43 rfl ?_
      refine rk_getf fR_76 dR_hits_44 k.m rfl ?_
      refine rk_iload_n dR_hits_47 rfl ?_
      refine rk_iald dR_hits_48 k.pl (vp_in_nI (show m < 14 by omega) (by omega)) ?_
      rw [nI_clamp (show m < 2 ^ 31 by omega), hp]
      refine rk_aload_n dR_hits_49 rfl ?_
      refine rk_iload_n dR_hits_50 rfl ?_
      refine rk_cvV (c_R_cells b A X k m (by omega)) cR_137 dR_hits_51 rfl lR_cells (Nat.le_of_ble_eq_true rfl) (Nat.le_of_ble_eq_true rfl) (Nat.le_of_ble_eq_true rfl) (Nat.le_of_ble_eq_true rfl) k.m ?_
      refine rk_iadd dR_hits_54 ?_
      rw [nI_add]
      refine rk_icmp_ge 78 dR_hits_55 (by decide) (fun q_55 => ?_) (fun q_55 => ?_)
      · refine rk_iconst (v := 0) dR_hits_78 (by decide) ?_
        exact rk_zret rfl rfl dR_hits_79 ⟨(Nat.le_of_ble_eq_true rfl), (Nat.le_of_ble_eq_true rfl)⟩ (⟨by first | (rw [b2p q_39]; rfl) | (rw [decide_eq_false (p := t < p + (X.N m).ce) (by have := j3.mp q_55; omega), Bool.and_false]; rfl) | (rw [decide_eq_false (p := p < t + (X.N x).ce) (by have := j4.mp q_71; omega), Bool.and_false]; rfl) | (rw [b2p' q_39, decide_eq_true (show t < p + (X.N m).ce by have := mt j3.mpr q_55; omega), decide_eq_true (show p < t + (X.N x).ce by have := mt j4.mpr q_71; omega)]; rfl), rfl⟩)
      · refine rk_aload_n dR_hits_58 rfl ?_
        refine rk_getf fR_76 dR_hits_59 k.m rfl ?_
        refine rk_iload_n dR_hits_62 rfl ?_
        refine rk_iald dR_hits_63 k.pl (vp_in_nI (show m < 14 by omega) (by omega)) ?_
        rw [nI_clamp (show m < 2 ^ 31 by omega), hp]
        refine rk_iload_n dR_hits_64 rfl ?_
        refine rk_aload_n dR_hits_65 rfl ?_
        refine rk_iload_n dR_hits_66 rfl ?_
        refine rk_cvV (c_R_cells b A X k x (by omega)) cR_137 dR_hits_67 rfl lR_cells (Nat.le_of_ble_eq_true rfl) (Nat.le_of_ble_eq_true rfl) (Nat.le_of_ble_eq_true rfl) (Nat.le_of_ble_eq_true rfl) k.m ?_
        refine rk_iadd dR_hits_70 ?_
        rw [nI_add]
        refine rk_icmp_ge 78 dR_hits_71 (by decide) (fun q_71 => ?_) (fun q_71 => ?_)
        · refine rk_iconst (v := 0) dR_hits_78 (by decide) ?_
          exact rk_zret rfl rfl dR_hits_79 ⟨(Nat.le_of_ble_eq_true rfl), (Nat.le_of_ble_eq_true rfl)⟩ (⟨by first | (rw [b2p q_39]; rfl) | (rw [decide_eq_false (p := t < p + (X.N m).ce) (by have := j3.mp q_55; omega), Bool.and_false]; rfl) | (rw [decide_eq_false (p := p < t + (X.N x).ce) (by have := j4.mp q_71; omega), Bool.and_false]; rfl) | (rw [b2p' q_39, decide_eq_true (show t < p + (X.N m).ce by have := mt j3.mpr q_55; omega), decide_eq_true (show p < t + (X.N x).ce by have := mt j4.mpr q_71; omega)]; rfl), rfl⟩)
        · refine rk_iconst (v := 1) dR_hits_74 (by decide) ?_
          refine rk_goto 79 dR_hits_75 (by decide) ?_
          exact rk_zret rfl rfl dR_hits_79 ⟨(Nat.le_of_ble_eq_true rfl), (Nat.le_of_ble_eq_true rfl)⟩ (⟨by first | (rw [b2p q_39]; rfl) | (rw [decide_eq_false (p := t < p + (X.N m).ce) (by have := j3.mp q_55; omega), Bool.and_false]; rfl) | (rw [decide_eq_false (p := p < t + (X.N x).ce) (by have := j4.mp q_71; omega), Bool.and_false]; rfl) | (rw [b2p' q_39, decide_eq_true (show t < p + (X.N m).ce by have := mt j3.mpr q_55; omega), decide_eq_true (show p < t + (X.N x).ce by have := mt j4.mpr q_71; omega)]; rfl), rfl⟩)
  refine rk_Con.of [some (.ref (A 0)), some (.int (nI x)), some (.int (nI t)), some (.int (nI m)), none] rfl (Nat.le_of_ble_eq_true rfl) (by decide +kernel) ?_
  refine rk_aload_n dR_hits_0 rfl ?_
  refine rk_getf fR_70 dR_hits_1 k.m rfl ?_
  refine rk_iload_n dR_hits_4 rfl ?_
  refine rk_iald dR_hits_5 k.sp (vp_in_nI (show x < 14 by omega) (by omega)) ?_
  rw [nI_clamp (show x < 2 ^ 31 by omega), hT x hx hrx]
  refine rk_aload_n dR_hits_6 rfl ?_
  refine rk_getf fR_73 dR_hits_7 k.m rfl ?_
  refine rk_iload_n dR_hits_10 rfl ?_
  refine rk_iald dR_hits_11 k.la (vp_in_nI (show m < 14 by omega) (by omega)) ?_
  rw [nI_clamp (show m < 2 ^ 31 by omega), hL m hm hrm]
  refine rk_icmp_gt 34 dR_hits_12 (by decide) (fun q_12 => ?_) (fun q_12 => ?_)
  · refine rk_iconst (v := 0) dR_hits_34 (by decide) ?_
    refine rk_int1 (v := b2i (togB T L x m)) (by unfold togB; first | (rw [decide_eq_false (p := T x ≤ L m) (by have := j1.mp q_12; omega)]; rfl) | (rw [decide_eq_false (p := T m ≤ L x) (by have := j2.mp q_27; omega), Bool.and_false]; rfl) | (rw [decide_eq_true (show T x ≤ L m by have := mt j1.mpr q_12; omega), decide_eq_true (show T m ≤ L x by have := mt j2.mpr q_27; omega)]; rfl)) ?_
    refine rk_istore dR_hits_35 (Nat.le_of_ble_eq_true rfl) ?_
    exact tail _
  · refine rk_aload_n dR_hits_15 rfl ?_
    refine rk_getf fR_70 dR_hits_16 k.m rfl ?_
    refine rk_iload_n dR_hits_19 rfl ?_
    refine rk_iald dR_hits_20 k.sp (vp_in_nI (show m < 14 by omega) (by omega)) ?_
    rw [nI_clamp (show m < 2 ^ 31 by omega), hT m hm hrm]
    refine rk_aload_n dR_hits_21 rfl ?_
    refine rk_getf fR_73 dR_hits_22 k.m rfl ?_
    refine rk_iload_n dR_hits_25 rfl ?_
    refine rk_iald dR_hits_26 k.la (vp_in_nI (show x < 14 by omega) (by omega)) ?_
    rw [nI_clamp (show x < 2 ^ 31 by omega), hL x hx hrx]
    refine rk_icmp_gt 34 dR_hits_27 (by decide) (fun q_27 => ?_) (fun q_27 => ?_)
    · refine rk_iconst (v := 0) dR_hits_34 (by decide) ?_
      refine rk_int1 (v := b2i (togB T L x m)) (by unfold togB; first | (rw [decide_eq_false (p := T x ≤ L m) (by have := j1.mp q_12; omega)]; rfl) | (rw [decide_eq_false (p := T m ≤ L x) (by have := j2.mp q_27; omega), Bool.and_false]; rfl) | (rw [decide_eq_true (show T x ≤ L m by have := mt j1.mpr q_12; omega), decide_eq_true (show T m ≤ L x by have := mt j2.mpr q_27; omega)]; rfl)) ?_
      refine rk_istore dR_hits_35 (Nat.le_of_ble_eq_true rfl) ?_
      exact tail _
    · refine rk_iconst (v := 1) dR_hits_30 (by decide) ?_
      refine rk_goto 35 dR_hits_31 (by decide) ?_
      refine rk_int1 (v := b2i (togB T L x m)) (by unfold togB; first | (rw [decide_eq_false (p := T x ≤ L m) (by have := j1.mp q_12; omega)]; rfl) | (rw [decide_eq_false (p := T m ≤ L x) (by have := j2.mp q_27; omega), Bool.and_false]; rfl) | (rw [decide_eq_true (show T x ≤ L m by have := mt j1.mpr q_12; omega), decide_eq_true (show T m ≤ L x by have := mt j2.mpr q_27; omega)]; rfl)) ?_
      refine rk_istore dR_hits_35 (Nat.le_of_ble_eq_true rfl) ?_
      exact tail _
theorem cB_up {PT : Nat → Option Nat} {x t : Nat} : ∀ k : Nat, cB (psB (fun j => if j = x then some t else PT j)) k ≤ cB (psB PT) k + (if x < k then 1 else 0) := by
  intro k
  induction k with
  | zero => exact Nat.le_refl _
  | succ k ihk =>
    unfold cB
    by_cases hkx : k = x
    · subst hkx
      rw [if_neg (by omega)] at ihk
      rw [if_pos (show k < k + 1 by omega)]
      split <;> omega
    · have e : psB (fun j => if j = x then some t else PT j) k = psB PT k := by unfold psB; dsimp only; rw [if_neg hkx]
      rw [e]
      by_cases hxk : x < k
      · rw [if_pos hxk] at ihk
        rw [if_pos (show x < k + 1 by omega)]
        omega
      · rw [if_neg hxk] at ihk
        rw [if_neg (show ¬ x < k + 1 by omega)]
        omega
theorem plT_s {N : Nat → aN} {R T L : Nat → Nat} {n r : Nat} : plT N R T L n (r + 1) = plS N R T L n (plT N R T L n r) := by unfold plT; rw [itr_snoc]
theorem plT_few {N : Nat → aN} {R T L : Nat → Nat} {n : Nat} (r : Nat) : cB (psB (plT N R T L n r).1) n ≤ r := by
  induction r with
  | zero =>
    show cB (fun _ => false) n ≤ 0
    have : ∀ n, cB (fun _ => false) n = 0 := by
      intro n
      induction n with
      | zero => rfl
      | succ n ih => unfold cB; rw [ih]; rfl
    rw [this]
    exact Nat.le_refl _
  | succ r ih =>
    rw [plT_s]
    unfold plS
    cases hb : bigO N R n (plT N R T L n r).1 with
    | none => dsimp only; omega
    | some x =>
      dsimp only
      have := cB_up (PT := (plT N R T L n r).1) (x := x) (t := lfS N T L n (plT N R T L n r).1 x) n
      have h1 : (if x < n then 1 else 0) ≤ 1 := by split <;> omega
      omega
theorem plT_big {N : Nat → aN} {R T L : Nat → Nat} {n r : Nat} (hr : r < cnt R n) : ∃ x, bigO N R n (plT N R T L n r).1 = some x := by
  cases hb : bigO N R n (plT N R T L n r).1 with
  | some x => exact ⟨x, rfl⟩
  | none =>
    exfalso
    have h1 := plT_few (N := N) (R := R) (T := T) (L := L) (n := n) r
    have h2 := cB_mono (p := fun m => decide (R m = 2)) (q := psB (plT N R T L n r).1) (k := n) (fun j hj hp => by
      have := (itr_none n 0 none hb).2 j (Nat.zero_le _) (by omega)
      unfold psB
      cases hq : (plT N R T L n r).1 j with
      | some z => rfl
      | none => exact absurd ⟨of_decide_eq_true hp, hq⟩ this)
    rw [← cnt_cB] at h2
    omega
theorem wpk_wpl {X : rX} {g : Nat → Int32} {v : Int32} : (X.wpk v).wpl g = (X.wpl g).wpk v := rfl
theorem wpl_wpl {X : rX} {f g : Nat → Int32} : (X.wpl f).wpl g = X.wpl g := rfl
theorem pl_up {X : rX} {f g : Nat → Int32} {v : Int32} : ((X.wpl f).wpk v).wpl g = (X.wpl g).wpk v := by rw [wpk_wpl, wpl_wpl]
theorem pl_pl {X : rX} {f : Nat → Int32} {v : Int32} : ((X.wpl f).wpk v).pl = f := rfl
theorem pw_N {X : rX} {f : Nat → Int32} {v : Int32} : ((X.wpl f).wpk v).N = X.N := rfl
theorem pw_pk {X : rX} {v : Int32} : (X.wpk v).pk = v := rfl
theorem pw_up {X : rX} {v w : Int32} : (X.wpk v).wpk w = X.wpk w := rfl
def paP (b : rk_H) (A : Nat → Nat) (X : rX) (R T L : Nat → Nat) : rk_P := fun r h' => r = .inl none ∧ ∃ f : Nat → Int32, h' = rv b A ((X.wpl f).wpk (nI (plT X.N R T L X.no (cnt R X.no)).2)) ∧ plR f (plT X.N R T L X.no (cnt R X.no)).1 X.no
theorem c_R_plan (b : rk_H) (A : Nat → Nat) (X : rX) (k : rA A) (R T L : Nat → Nat) (hn : X.no ≤ 14) (hbd : bdOK X.N X.no) (hR : sfK X.ro R X.no) (h2 : ∀ j, R j ≤ 2) (hT : plK X.sp R T X.no) (hL : plK X.la R L X.no) (hTb : ∀ i, i < X.no → T i ≤ 14) (hLb : ∀ i, i < X.no → L i ≤ 14) (hsn : X.sn = nI (cnt R X.no)) :
    rk_Con mR_plan (2, 31, 0, 0) [.ref (A 0)] (rv b A X) (paP b A X R T L) := by
  have hcn := cnt_le (R := R) (k := X.no)
  have e2 : ∀ j, nI (R j) = 2 ↔ R j = 2 := fun j => nI_eq (b := 2) (by have := h2 j; omega) (by omega)
  have L2 : ∀ (k1 r : Nat) (f : Nat → Int32), r + k1 = cnt R X.no → plR f (plT X.N R T L X.no r).1 X.no → rk_Run mR_plan (2, 31, 0, 0) (paP b A X R T L) 30 [some (.ref (A 0)), some (.int (nI r)), none, none, none, none] [] (rv b A ((X.wpl f).wpk (nI (plT X.N R T L X.no r).2))) (0, 0) := by
    intro k1
    induction k1 with
    | zero =>
      intro r f hr hf
      have hr : r = cnt R X.no := by omega
      subst hr
      refine rk_iload_n dR_plan_30 rfl ?_
      refine rk_aload_n dR_plan_31 rfl ?_
      refine rk_getf fR_152 dR_plan_32 k.m rfl ?_
      rw [show ((X.wpl f).wpk (nI (plT X.N R T L X.no (cnt R X.no)).2)).sn = nI (cnt R X.no) from hsn]
      refine rk_icmp_ge 199 dR_plan_35 (by decide) (fun q_35 => ?_) (fun q_35 => ?_)
      · exact rk_ret rfl dR_plan_199 ⟨(Nat.le_of_ble_eq_true rfl), (Nat.le_of_ble_eq_true rfl)⟩ (⟨rfl, f, rfl, hf⟩)
      · exact absurd (nI_le (Nat.le_refl _) (by omega)) q_35
    | succ k1 ih =>
      intro r f hr hf
      obtain ⟨x, hbx⟩ := plT_big (N := X.N) (R := R) (T := T) (L := L) (n := X.no) (r := r) (by omega)
      obtain ⟨⟨hK, hpk⟩, -, -⟩ := plT_all (N := X.N) (R := R) (T := T) (L := L) (n := X.no) hbd r (by omega)
      have hnx := ih (r + 1)
      rw [plT_s] at hnx
      generalize plT X.N R T L X.no r = q0 at hbx hK hpk hf hnx ⊢
      obtain ⟨PT, pk⟩ := q0
      dsimp only at hbx hK hpk hf hnx ⊢
      obtain ⟨bx1, bx2, bx3⟩ := bigO_ok hbx
      have cx := (hbd x bx1).ce
      have hlf := lfS_le (T := T) (L := L) (x := x) hK (by omega)
      have hfr := lfS_free (T := T) (L := L) (x := x) hK (by omega)
      have ePS : plS X.N R T L X.no (PT, pk) = (fun j => if j = x then some (lfS X.N T L X.no PT x) else PT j, max pk (lfS X.N T L X.no PT x + (X.N x).ce)) := by unfold plS; dsimp only; rw [hbx]
      rw [ePS] at hnx
      dsimp only at hnx
      have hPb : ∀ m p, PT m = some p → p ≤ 1792 ∧ (m < X.no ∧ R m = 2) := fun m p h => ⟨by have := (hK m p h).2; omega, (hK m p h).1⟩
      -- the end of a round
      have fin : rk_Run mR_plan (2, 31, 0, 0) (paP b A X R T L) 161 [some (.ref (A 0)), some (.int (nI r)), some (.int (nI x)), some (.int (nI (lfS X.N T L X.no PT x))), none, none] [] (rv b A ((X.wpl f).wpk (nI pk))) (0, 0) := by
        have hpl : plR (upd f x (nI (lfS X.N T L X.no PT x))) (fun j => if j = x then some (lfS X.N T L X.no PT x) else PT j) X.no := by
          intro j hj
          dsimp only
          unfold upd
          by_cases hz : j = x
          · rw [if_pos hz, if_pos hz]; rfl
          · rw [if_neg hz, if_neg hz]; exact hf j hj
        have hnx2 := hnx (upd f x (nI (lfS X.N T L X.no PT x))) (by omega) hpl
        have ele : nI (lfS X.N T L X.no PT x + (X.N x).ce) ≤ nI pk ↔ lfS X.N T L X.no PT x + (X.N x).ce ≤ pk := nI_leI (by omega) (by omega)
        refine rk_aload_n dR_plan_161 rfl ?_
        refine rk_getf fR_76 dR_plan_162 k.m rfl ?_
        refine rk_iload_n dR_plan_165 rfl ?_
        refine rk_iload_n dR_plan_166 rfl ?_
        refine rk_iast dR_plan_167 k.pl (vp_in_nI (show x < 14 by omega) (by omega)) ?_
        rw [k.upl]
        rw [nI_clamp (show x < 2 ^ 31 by omega), pl_up, pl_pl]
        refine rk_iload_n dR_plan_168 rfl ?_
        refine rk_aload_n dR_plan_169 rfl ?_
        refine rk_iload_n dR_plan_170 rfl ?_
        refine rk_cvV (c_R_cells b A _ k x (by omega)) cR_137 dR_plan_171 rfl lR_cells (Nat.le_of_ble_eq_true rfl) (Nat.le_of_ble_eq_true rfl) (Nat.le_of_ble_eq_true rfl) (Nat.le_of_ble_eq_true rfl) k.m ?_
        refine rk_iadd dR_plan_174 ?_
        rw [pw_N, nI_add]
        refine rk_aload_n dR_plan_175 rfl ?_
        refine rk_getf fR_158 dR_plan_176 k.m rfl ?_
        rw [pw_pk]
        refine rk_icmp_le 193 dR_plan_179 (by decide) (fun q_179 => ?_) (fun q_179 => ?_)
        · first | rw [pw_up] | skip
          refine rk_iinc dR_plan_193 rfl (inc1 r) (Nat.le_of_ble_eq_true rfl) ?_
          refine rk_goto 30 dR_plan_196 (by decide) ?_
          refine rk_lv [some (.ref (A 0)), some (.int (nI (r + 1))), none, none, none, none] ⟨rfl, rfl, trivial⟩ ?_
          first | (have em := Nat.max_eq_left (ele.mp q_179); rw [em] at hnx2; exact hnx2) | (have em := Nat.max_eq_right (Nat.le_of_lt (Nat.not_le.mp (mt ele.mpr q_179))); rw [em] at hnx2; exact hnx2)
        · refine rk_aload_n dR_plan_182 rfl ?_
          refine rk_iload_n dR_plan_183 rfl ?_
          refine rk_aload_n dR_plan_184 rfl ?_
          refine rk_iload_n dR_plan_185 rfl ?_
          refine rk_cvV (c_R_cells b A _ k x (by omega)) cR_137 dR_plan_186 rfl lR_cells (Nat.le_of_ble_eq_true rfl) (Nat.le_of_ble_eq_true rfl) (Nat.le_of_ble_eq_true rfl) (Nat.le_of_ble_eq_true rfl) k.m ?_
          refine rk_iadd dR_plan_189 ?_
          rw [pw_N, nI_add]
          refine rk_putf pR_158 dR_plan_190 k.m (Nat.le_of_ble_eq_true rfl) rfl rfl ?_
          rw [k.upk]
          first | rw [pw_up] | skip
          refine rk_iinc dR_plan_193 rfl (inc1 r) (Nat.le_of_ble_eq_true rfl) ?_
          refine rk_goto 30 dR_plan_196 (by decide) ?_
          refine rk_lv [some (.ref (A 0)), some (.int (nI (r + 1))), none, none, none, none] ⟨rfl, rfl, trivial⟩ ?_
          first | (have em := Nat.max_eq_left (ele.mp q_179); rw [em] at hnx2; exact hnx2) | (have em := Nat.max_eq_right (Nat.le_of_lt (Nat.not_le.mp (mt ele.mpr q_179))); rw [em] at hnx2; exact hnx2)
      -- one pass over the nodes
      have pass : ∀ (d at_ : Nat), lfS X.N T L X.no PT x - at_ ≤ d → at_ ≤ lfS X.N T L X.no PT x → rk_Run mR_plan (2, 31, 0, 0) (paP b A X R T L) 99 [some (.ref (A 0)), some (.int (nI r)), some (.int (nI x)), some (.int (nI at_)), some (.int 1), none] [] (rv b A ((X.wpl f).wpk (nI pk))) (0, 0) := by
        intro d
        induction d with
        | zero =>
          intro at_ hd ha
          have hd : at_ = lfS X.N T L X.no PT x := by omega
          have step : ∀ (k2 m a' : Nat) (mv : Bool), m + k2 = X.no → a' ≤ lfS X.N T L X.no PT x → (mv = false → a' = at_ ∧ ∀ j, j < m → hitB X.N T L PT x at_ j = false) → (mv = true → at_ < a') → rk_Run mR_plan (2, 31, 0, 0) (paP b A X R T L) 110 [some (.ref (A 0)), some (.int (nI r)), some (.int (nI x)), some (.int (nI a')), some (.int (b2i mv)), some (.int (nI m))] [] (rv b A ((X.wpl f).wpk (nI pk))) (0, 0) := by
            intro k2
            induction k2 with
            | zero =>
              intro m a' mv hm ha' h0 h1
              have hm : m = X.no := by omega
              subst hm
              cases mv with
              | false =>
                obtain ⟨ea, hno⟩ := h0 rfl
                subst ea
                have hfree : freeB X.N T L X.no PT x a' = true := by unfold freeB; exact decide_eq_true (fstA_none.mpr hno)
                have hle := fstA_first (k := 1793) hfree (Nat.zero_le a')
                have ee : a' = lfS X.N T L X.no PT x := by unfold lfS at ha' ⊢; omega
                rw [ee]
                refine rk_iload dR_plan_110 rfl ?_
                refine rk_aload_n dR_plan_112 rfl ?_
                refine rk_getf fR_106 dR_plan_113 k.m rfl ?_
                first | simp only [wro_no, wst_no, wsp_no, wla_no, wsn_no, wpl_no, wpk_no] | skip
                refine rk_icmp_ge 158 dR_plan_116 (by decide) (fun q_116 => ?_) (fun q_116 => ?_)
                · refine rk_goto 99 dR_plan_158 (by decide) ?_
                  refine rk_iload dR_plan_99 rfl ?_
                  refine rk_if_eq 161 dR_plan_101 (by decide) (fun q_101 => ?_) (fun q_101 => ?_)
                  · refine rk_lv [some (.ref (A 0)), some (.int (nI r)), some (.int (nI x)), some (.int (nI (lfS X.N T L X.no PT x))), none, none] ⟨rfl, rfl, rfl, rfl, trivial⟩ ?_
                    exact fin
                  · exact absurd rfl q_101
                · exact absurd (nI_le (Nat.le_refl _) (by omega)) q_116
              | true =>
                have hlt := h1 rfl
                exact absurd hlt (by omega)
            | succ k2 ih2 =>
              intro m a' mv hm ha' h0 h1
              have cm := (hbd m (by omega)).ce
              have hPm : ((X.wpl f).wpk (nI pk)).pl m = oI (PT m) := hf m (by omega)
              have exm : nI m = nI x ↔ m = x := nI_eq (by omega) (by omega)
              have no : hitB X.N T L PT x a' m = false → rk_Run mR_plan (2, 31, 0, 0) (paP b A X R T L) 152 [some (.ref (A 0)), some (.int (nI r)), some (.int (nI x)), some (.int (nI a')), some (.int (b2i mv)), some (.int (nI m))] [] (rv b A ((X.wpl f).wpk (nI pk))) (0, 0) := by
                intro hh
                have e := ih2 (m + 1) a' mv (by omega) ha' (fun z => ⟨(h0 z).1, fun j hj => by
                  by_cases hjm : j = m
                  · rw [hjm, ← (h0 z).1]; exact hh
                  · exact (h0 z).2 j (by omega)⟩) h1
                refine rk_iinc dR_plan_152 rfl (inc1 m) (Nat.le_of_ble_eq_true rfl) ?_
                refine rk_goto 110 dR_plan_155 (by decide) ?_
                exact e
              have yes : hitB X.N T L PT x a' m = true → rk_Run mR_plan (2, 31, 0, 0) (paP b A X R T L) 152 [some (.ref (A 0)), some (.int (nI r)), some (.int (nI x)), some (.int (nI (a' + 1))), some (.int (b2i true)), some (.int (nI m))] [] (rv b A ((X.wpl f).wpk (nI pk))) (0, 0) := by
                intro hh
                have hne : a' ≠ lfS X.N T L X.no PT x := fun z => by
                  have := freeB_hit (n := X.no) (by omega) hh
                  rw [z, hfr] at this
                  cases this
                have e := ih2 (m + 1) (a' + 1) true (by omega) (by omega) (fun z => by cases z) (fun _ => by
                  cases mv with
                  | false => have := (h0 rfl).1; omega
                  | true => have := h1 rfl; omega)
                refine rk_iinc dR_plan_152 rfl (inc1 m) (Nat.le_of_ble_eq_true rfl) ?_
                refine rk_goto 110 dR_plan_155 (by decide) ?_
                exact e
              cases hp : PT m with
              | none =>
                have hh : hitB X.N T L PT x a' m = false := by unfold hitB; rw [hp]
                rw [hp] at hPm
                refine rk_iload dR_plan_110 rfl ?_
                refine rk_aload_n dR_plan_112 rfl ?_
                refine rk_getf fR_106 dR_plan_113 k.m rfl ?_
                first | simp only [wro_no, wst_no, wsp_no, wla_no, wsn_no, wpl_no, wpk_no] | skip
                refine rk_icmp_ge 158 dR_plan_116 (by decide) (fun q_116 => ?_) (fun q_116 => ?_)
                · exact absurd q_116 (nI_ge (by omega) (by omega))
                · refine rk_iload dR_plan_119 rfl ?_
                  refine rk_iload_n dR_plan_121 rfl ?_
                  refine rk_icmp_eq 152 dR_plan_122 (by decide) (fun q_122 => ?_) (fun q_122 => ?_)
                  · exact no hh
                  · refine rk_aload_n dR_plan_125 rfl ?_
                    refine rk_getf fR_76 dR_plan_126 k.m rfl ?_
                    refine rk_iload dR_plan_129 rfl ?_
                    refine rk_iald dR_plan_131 k.pl (vp_in_nI (show m < 14 by omega) (by omega)) ?_
                    rw [nI_clamp (show m < 2 ^ 31 by omega), hPm]
                    refine rk_if_lt 152 dR_plan_132 (by decide) (fun q_132 => ?_) (fun q_132 => ?_)
                    · exact no hh
                    · exact absurd (by decide) q_132
              | some p =>
                have hpb := hPb m p hp
                rw [hp] at hPm
                have hmx : ¬ m = x := fun z => by rw [z, bx3] at hp; cases hp
                have ehit : hitB X.N T L PT x a' m = (togB T L x m && decide (a' < p + (X.N m).ce) && decide (p < a' + (X.N x).ce)) := by unfold hitB; rw [hp]
                refine rk_iload dR_plan_110 rfl ?_
                refine rk_aload_n dR_plan_112 rfl ?_
                refine rk_getf fR_106 dR_plan_113 k.m rfl ?_
                first | simp only [wro_no, wst_no, wsp_no, wla_no, wsn_no, wpl_no, wpk_no] | skip
                refine rk_icmp_ge 158 dR_plan_116 (by decide) (fun q_116 => ?_) (fun q_116 => ?_)
                · exact absurd q_116 (nI_ge (by omega) (by omega))
                · refine rk_iload dR_plan_119 rfl ?_
                  refine rk_iload_n dR_plan_121 rfl ?_
                  refine rk_icmp_eq 152 dR_plan_122 (by decide) (fun q_122 => ?_) (fun q_122 => ?_)
                  · exact absurd (exm.mp q_122) hmx
                  · refine rk_aload_n dR_plan_125 rfl ?_
                    refine rk_getf fR_76 dR_plan_126 k.m rfl ?_
                    refine rk_iload dR_plan_129 rfl ?_
                    refine rk_iald dR_plan_131 k.pl (vp_in_nI (show m < 14 by omega) (by omega)) ?_
                    rw [nI_clamp (show m < 2 ^ 31 by omega), hPm]
                    refine rk_if_lt 152 dR_plan_132 (by decide) (fun q_132 => ?_) (fun q_132 => ?_)
                    · exact absurd q_132 (nI_pos (by omega))
                    · refine rk_aload_n dR_plan_135 rfl ?_
                      refine rk_iload_n dR_plan_136 rfl ?_
                      refine rk_iload_n dR_plan_137 rfl ?_
                      refine rk_iload dR_plan_138 rfl ?_
                      refine rk_cvV (c_R_hits b A ((X.wpl f).wpk (nI pk)) k R T L x a' m p hn bx1 (show m < X.no by omega) hbd hT hL hTb hLb bx2 hpb.2.2 (by omega) hPm hpb.1) cR_161 dR_plan_140 rfl lR_hits (Nat.le_of_ble_eq_true rfl) (Nat.le_of_ble_eq_true rfl) (Nat.le_of_ble_eq_true rfl) (Nat.le_of_ble_eq_true rfl) k.m ?_
                      refine rk_if_eq 152 dR_plan_143 (by decide) (fun q_143 => ?_) (fun q_143 => ?_)
                      · first | exact no (by rw [ehit]; exact b2p q_143) | exact yes (by rw [ehit]; exact b2p' q_143)
                      · refine rk_iinc dR_plan_146 rfl (inc1 a') (Nat.le_of_ble_eq_true rfl) ?_
                        refine rk_iconst (v := 1) dR_plan_149 (by decide) ?_
                        refine rk_istore dR_plan_150 (Nat.le_of_ble_eq_true rfl) ?_
                        first | exact no (by rw [ehit]; exact b2p q_143) | exact yes (by rw [ehit]; exact b2p' q_143)
          refine rk_iload dR_plan_99 rfl ?_
          refine rk_if_eq 161 dR_plan_101 (by decide) (fun q_101 => ?_) (fun q_101 => ?_)
          · exact absurd q_101 (by decide)
          · refine rk_iconst (v := 0) dR_plan_104 (by decide) ?_
            refine rk_istore dR_plan_105 (Nat.le_of_ble_eq_true rfl) ?_
            refine rk_iconst (v := 0) dR_plan_107 (by decide) ?_
            refine rk_istore dR_plan_108 (Nat.le_of_ble_eq_true rfl) ?_
            exact step X.no 0 at_ false (by omega) ha (fun _ => ⟨rfl, fun j hj => absurd hj (Nat.not_lt_zero _)⟩) (fun z => by cases z)
        | succ d ihd =>
          intro at_ hd ha
          have step : ∀ (k2 m a' : Nat) (mv : Bool), m + k2 = X.no → a' ≤ lfS X.N T L X.no PT x → (mv = false → a' = at_ ∧ ∀ j, j < m → hitB X.N T L PT x at_ j = false) → (mv = true → at_ < a') → rk_Run mR_plan (2, 31, 0, 0) (paP b A X R T L) 110 [some (.ref (A 0)), some (.int (nI r)), some (.int (nI x)), some (.int (nI a')), some (.int (b2i mv)), some (.int (nI m))] [] (rv b A ((X.wpl f).wpk (nI pk))) (0, 0) := by
            intro k2
            induction k2 with
            | zero =>
              intro m a' mv hm ha' h0 h1
              have hm : m = X.no := by omega
              subst hm
              cases mv with
              | false =>
                obtain ⟨ea, hno⟩ := h0 rfl
                subst ea
                have hfree : freeB X.N T L X.no PT x a' = true := by unfold freeB; exact decide_eq_true (fstA_none.mpr hno)
                have hle := fstA_first (k := 1793) hfree (Nat.zero_le a')
                have ee : a' = lfS X.N T L X.no PT x := by unfold lfS at ha' ⊢; omega
                rw [ee]
                refine rk_iload dR_plan_110 rfl ?_
                refine rk_aload_n dR_plan_112 rfl ?_
                refine rk_getf fR_106 dR_plan_113 k.m rfl ?_
                first | simp only [wro_no, wst_no, wsp_no, wla_no, wsn_no, wpl_no, wpk_no] | skip
                refine rk_icmp_ge 158 dR_plan_116 (by decide) (fun q_116 => ?_) (fun q_116 => ?_)
                · refine rk_goto 99 dR_plan_158 (by decide) ?_
                  refine rk_iload dR_plan_99 rfl ?_
                  refine rk_if_eq 161 dR_plan_101 (by decide) (fun q_101 => ?_) (fun q_101 => ?_)
                  · refine rk_lv [some (.ref (A 0)), some (.int (nI r)), some (.int (nI x)), some (.int (nI (lfS X.N T L X.no PT x))), none, none] ⟨rfl, rfl, rfl, rfl, trivial⟩ ?_
                    exact fin
                  · exact absurd rfl q_101
                · exact absurd (nI_le (Nat.le_refl _) (by omega)) q_116
              | true =>
                have hlt := h1 rfl
                refine rk_iload dR_plan_110 rfl ?_
                refine rk_aload_n dR_plan_112 rfl ?_
                refine rk_getf fR_106 dR_plan_113 k.m rfl ?_
                first | simp only [wro_no, wst_no, wsp_no, wla_no, wsn_no, wpl_no, wpk_no] | skip
                refine rk_icmp_ge 158 dR_plan_116 (by decide) (fun q_116 => ?_) (fun q_116 => ?_)
                · refine rk_goto 99 dR_plan_158 (by decide) ?_
                  refine rk_lv [some (.ref (A 0)), some (.int (nI r)), some (.int (nI x)), some (.int (nI a')), some (.int 1), none] ⟨rfl, rfl, rfl, rfl, rfl, trivial⟩ ?_
                  exact ihd a' (by omega) ha'
                · exact absurd (nI_le (Nat.le_refl _) (by omega)) q_116
            | succ k2 ih2 =>
              intro m a' mv hm ha' h0 h1
              have cm := (hbd m (by omega)).ce
              have hPm : ((X.wpl f).wpk (nI pk)).pl m = oI (PT m) := hf m (by omega)
              have exm : nI m = nI x ↔ m = x := nI_eq (by omega) (by omega)
              have no : hitB X.N T L PT x a' m = false → rk_Run mR_plan (2, 31, 0, 0) (paP b A X R T L) 152 [some (.ref (A 0)), some (.int (nI r)), some (.int (nI x)), some (.int (nI a')), some (.int (b2i mv)), some (.int (nI m))] [] (rv b A ((X.wpl f).wpk (nI pk))) (0, 0) := by
                intro hh
                have e := ih2 (m + 1) a' mv (by omega) ha' (fun z => ⟨(h0 z).1, fun j hj => by
                  by_cases hjm : j = m
                  · rw [hjm, ← (h0 z).1]; exact hh
                  · exact (h0 z).2 j (by omega)⟩) h1
                refine rk_iinc dR_plan_152 rfl (inc1 m) (Nat.le_of_ble_eq_true rfl) ?_
                refine rk_goto 110 dR_plan_155 (by decide) ?_
                exact e
              have yes : hitB X.N T L PT x a' m = true → rk_Run mR_plan (2, 31, 0, 0) (paP b A X R T L) 152 [some (.ref (A 0)), some (.int (nI r)), some (.int (nI x)), some (.int (nI (a' + 1))), some (.int (b2i true)), some (.int (nI m))] [] (rv b A ((X.wpl f).wpk (nI pk))) (0, 0) := by
                intro hh
                have hne : a' ≠ lfS X.N T L X.no PT x := fun z => by
                  have := freeB_hit (n := X.no) (by omega) hh
                  rw [z, hfr] at this
                  cases this
                have e := ih2 (m + 1) (a' + 1) true (by omega) (by omega) (fun z => by cases z) (fun _ => by
                  cases mv with
                  | false => have := (h0 rfl).1; omega
                  | true => have := h1 rfl; omega)
                refine rk_iinc dR_plan_152 rfl (inc1 m) (Nat.le_of_ble_eq_true rfl) ?_
                refine rk_goto 110 dR_plan_155 (by decide) ?_
                exact e
              cases hp : PT m with
              | none =>
                have hh : hitB X.N T L PT x a' m = false := by unfold hitB; rw [hp]
                rw [hp] at hPm
                refine rk_iload dR_plan_110 rfl ?_
                refine rk_aload_n dR_plan_112 rfl ?_
                refine rk_getf fR_106 dR_plan_113 k.m rfl ?_
                first | simp only [wro_no, wst_no, wsp_no, wla_no, wsn_no, wpl_no, wpk_no] | skip
                refine rk_icmp_ge 158 dR_plan_116 (by decide) (fun q_116 => ?_) (fun q_116 => ?_)
                · exact absurd q_116 (nI_ge (by omega) (by omega))
                · refine rk_iload dR_plan_119 rfl ?_
                  refine rk_iload_n dR_plan_121 rfl ?_
                  refine rk_icmp_eq 152 dR_plan_122 (by decide) (fun q_122 => ?_) (fun q_122 => ?_)
                  · exact no hh
                  · refine rk_aload_n dR_plan_125 rfl ?_
                    refine rk_getf fR_76 dR_plan_126 k.m rfl ?_
                    refine rk_iload dR_plan_129 rfl ?_
                    refine rk_iald dR_plan_131 k.pl (vp_in_nI (show m < 14 by omega) (by omega)) ?_
                    rw [nI_clamp (show m < 2 ^ 31 by omega), hPm]
                    refine rk_if_lt 152 dR_plan_132 (by decide) (fun q_132 => ?_) (fun q_132 => ?_)
                    · exact no hh
                    · exact absurd (by decide) q_132
              | some p =>
                have hpb := hPb m p hp
                rw [hp] at hPm
                have hmx : ¬ m = x := fun z => by rw [z, bx3] at hp; cases hp
                have ehit : hitB X.N T L PT x a' m = (togB T L x m && decide (a' < p + (X.N m).ce) && decide (p < a' + (X.N x).ce)) := by unfold hitB; rw [hp]
                refine rk_iload dR_plan_110 rfl ?_
                refine rk_aload_n dR_plan_112 rfl ?_
                refine rk_getf fR_106 dR_plan_113 k.m rfl ?_
                first | simp only [wro_no, wst_no, wsp_no, wla_no, wsn_no, wpl_no, wpk_no] | skip
                refine rk_icmp_ge 158 dR_plan_116 (by decide) (fun q_116 => ?_) (fun q_116 => ?_)
                · exact absurd q_116 (nI_ge (by omega) (by omega))
                · refine rk_iload dR_plan_119 rfl ?_
                  refine rk_iload_n dR_plan_121 rfl ?_
                  refine rk_icmp_eq 152 dR_plan_122 (by decide) (fun q_122 => ?_) (fun q_122 => ?_)
                  · exact absurd (exm.mp q_122) hmx
                  · refine rk_aload_n dR_plan_125 rfl ?_
                    refine rk_getf fR_76 dR_plan_126 k.m rfl ?_
                    refine rk_iload dR_plan_129 rfl ?_
                    refine rk_iald dR_plan_131 k.pl (vp_in_nI (show m < 14 by omega) (by omega)) ?_
                    rw [nI_clamp (show m < 2 ^ 31 by omega), hPm]
                    refine rk_if_lt 152 dR_plan_132 (by decide) (fun q_132 => ?_) (fun q_132 => ?_)
                    · exact absurd q_132 (nI_pos (by omega))
                    · refine rk_aload_n dR_plan_135 rfl ?_
                      refine rk_iload_n dR_plan_136 rfl ?_
                      refine rk_iload_n dR_plan_137 rfl ?_
                      refine rk_iload dR_plan_138 rfl ?_
                      refine rk_cvV (c_R_hits b A ((X.wpl f).wpk (nI pk)) k R T L x a' m p hn bx1 (show m < X.no by omega) hbd hT hL hTb hLb bx2 hpb.2.2 (by omega) hPm hpb.1) cR_161 dR_plan_140 rfl lR_hits (Nat.le_of_ble_eq_true rfl) (Nat.le_of_ble_eq_true rfl) (Nat.le_of_ble_eq_true rfl) (Nat.le_of_ble_eq_true rfl) k.m ?_
                      refine rk_if_eq 152 dR_plan_143 (by decide) (fun q_143 => ?_) (fun q_143 => ?_)
                      · first | exact no (by rw [ehit]; exact b2p q_143) | exact yes (by rw [ehit]; exact b2p' q_143)
                      · refine rk_iinc dR_plan_146 rfl (inc1 a') (Nat.le_of_ble_eq_true rfl) ?_
                        refine rk_iconst (v := 1) dR_plan_149 (by decide) ?_
                        refine rk_istore dR_plan_150 (Nat.le_of_ble_eq_true rfl) ?_
                        first | exact no (by rw [ehit]; exact b2p q_143) | exact yes (by rw [ehit]; exact b2p' q_143)
          refine rk_iload dR_plan_99 rfl ?_
          refine rk_if_eq 161 dR_plan_101 (by decide) (fun q_101 => ?_) (fun q_101 => ?_)
          · exact absurd q_101 (by decide)
          · refine rk_iconst (v := 0) dR_plan_104 (by decide) ?_
            refine rk_istore dR_plan_105 (Nat.le_of_ble_eq_true rfl) ?_
            refine rk_iconst (v := 0) dR_plan_107 (by decide) ?_
            refine rk_istore dR_plan_108 (Nat.le_of_ble_eq_true rfl) ?_
            exact step X.no 0 at_ false (by omega) ha (fun _ => ⟨rfl, fun j hj => absurd hj (Nat.not_lt_zero _)⟩) (fun z => by cases z)
      have best : ∀ (k2 i : Nat) (q : Option Nat), i + k2 = X.no → (∀ m, q = some m → m < X.no) → itr (bigS X.N R PT) k2 i q = some x → rk_Run mR_plan (2, 31, 0, 0) (paP b A X R T L) 42 [some (.ref (A 0)), some (.int (nI r)), some (.int (oI q)), some (.int (nI i)), none, none] [] (rv b A ((X.wpl f).wpk (nI pk))) (0, 0) := by
        intro k2
        induction k2 with
        | zero =>
          intro i q hi hq hx
          have hi : i = X.no := by omega
          subst hi
          have hx : q = some x := hx
          subst hx
          refine rk_iload_n dR_plan_42 rfl ?_
          refine rk_aload_n dR_plan_43 rfl ?_
          refine rk_getf fR_106 dR_plan_44 k.m rfl ?_
          first | simp only [wro_no, wst_no, wsp_no, wla_no, wsn_no, wpl_no, wpk_no] | skip
          refine rk_icmp_ge 94 dR_plan_47 (by decide) (fun q_47 => ?_) (fun q_47 => ?_)
          · refine rk_iconst (v := 0) dR_plan_94 (by decide) ?_
            refine rk_istore_n dR_plan_95 (Nat.le_of_ble_eq_true rfl) ?_
            refine rk_iconst (v := 1) dR_plan_96 (by decide) ?_
            refine rk_istore dR_plan_97 (Nat.le_of_ble_eq_true rfl) ?_
            refine rk_lv [some (.ref (A 0)), some (.int (nI r)), some (.int (nI x)), some (.int (nI 0)), some (.int 1), none] ⟨rfl, rfl, rfl, rfl, rfl, trivial⟩ ?_
            exact pass _ 0 (Nat.le_refl _) (Nat.zero_le _)
          · exact absurd (nI_le (Nat.le_refl _) (by omega)) q_47
        | succ k2 ih2 =>
          intro i q hi hq hx
          have hRi : ((X.wpl f).wpk (nI pk)).ro i = nI (R i) := hR i (by omega)
          have hPi : ((X.wpl f).wpk (nI pk)).pl i = oI (PT i) := hf i (by omega)
          have eP : 0 ≤ oI (PT i) ↔ ¬ PT i = none := by
            cases hp : PT i with
            | none => exact ⟨fun z => absurd z (by decide), fun z => absurd rfl z⟩
            | some p => exact ⟨(fun _ z => by cases z), fun _ => nI_pos' (by have := (hPb i p hp).1; omega)⟩
          have ci := (hbd i (by omega)).ce
          have st : ∀ q', bigS X.N R PT i q = q' → (∀ m, q' = some m → m < X.no) → rk_Run mR_plan (2, 31, 0, 0) (paP b A X R T L) 88 [some (.ref (A 0)), some (.int (nI r)), some (.int (oI q')), some (.int (nI i)), none, none] [] (rv b A ((X.wpl f).wpk (nI pk))) (0, 0) := by
            intro q' hq' hq2
            have hh : itr (bigS X.N R PT) k2 (i + 1) (bigS X.N R PT i q) = some x := hx
            rw [hq'] at hh
            refine rk_iinc dR_plan_88 rfl (inc1 i) (Nat.le_of_ble_eq_true rfl) ?_
            refine rk_goto 42 dR_plan_91 (by decide) ?_
            exact ih2 (i + 1) q' (by omega) hq2 hh
          have no : ¬ (R i = 2 ∧ PT i = none ∧ bgr X.N q i = true) → rk_Run mR_plan (2, 31, 0, 0) (paP b A X R T L) 88 [some (.ref (A 0)), some (.int (nI r)), some (.int (oI q)), some (.int (nI i)), none, none] [] (rv b A ((X.wpl f).wpk (nI pk))) (0, 0) := fun h => st q (if_neg h) hq
          have yes : R i = 2 ∧ PT i = none ∧ bgr X.N q i = true → rk_Run mR_plan (2, 31, 0, 0) (paP b A X R T L) 88 [some (.ref (A 0)), some (.int (nI r)), some (.int (nI i)), some (.int (nI i)), none, none] [] (rv b A ((X.wpl f).wpk (nI pk))) (0, 0) := fun h => st (some i) (if_pos h) (fun m hm => by cases hm; omega)
          cases q with
          | none =>
            refine rk_iload_n dR_plan_42 rfl ?_
            refine rk_aload_n dR_plan_43 rfl ?_
            refine rk_getf fR_106 dR_plan_44 k.m rfl ?_
            first | simp only [wro_no, wst_no, wsp_no, wla_no, wsn_no, wpl_no, wpk_no] | skip
            refine rk_icmp_ge 94 dR_plan_47 (by decide) (fun q_47 => ?_) (fun q_47 => ?_)
            · exact absurd q_47 (nI_ge (by omega) (by omega))
            · refine rk_aload_n dR_plan_50 rfl ?_
              refine rk_getf fR_67 dR_plan_51 k.m rfl ?_
              refine rk_iload_n dR_plan_54 rfl ?_
              refine rk_iald dR_plan_55 k.ro (vp_in_nI (show i < 14 by omega) (by omega)) ?_
              rw [nI_clamp (show i < 2 ^ 31 by omega), hRi]
              refine rk_iconst (v := 2) dR_plan_56 (by decide) ?_
              refine rk_icmp_ne 88 dR_plan_57 (by decide) (fun q_57 => ?_) (fun q_57 => ?_)
              · first | exact no (fun z => q_57 ((e2 i).mpr z.1)) | exact no (fun z => eP.mp q_66 z.2.1) | exact yes ⟨(e2 i).mp (by first | exact q_57 | exact Decidable.not_not.mp q_57), Decidable.not_not.mp (mt eP.mpr q_66), rfl⟩
              · refine rk_aload_n dR_plan_60 rfl ?_
                refine rk_getf fR_76 dR_plan_61 k.m rfl ?_
                refine rk_iload_n dR_plan_64 rfl ?_
                refine rk_iald dR_plan_65 k.pl (vp_in_nI (show i < 14 by omega) (by omega)) ?_
                rw [nI_clamp (show i < 2 ^ 31 by omega), hPi]
                refine rk_if_ge 88 dR_plan_66 (by decide) (fun q_66 => ?_) (fun q_66 => ?_)
                · first | exact no (fun z => q_57 ((e2 i).mpr z.1)) | exact no (fun z => eP.mp q_66 z.2.1) | exact yes ⟨(e2 i).mp (by first | exact q_57 | exact Decidable.not_not.mp q_57), Decidable.not_not.mp (mt eP.mpr q_66), rfl⟩
                · refine rk_iload_n dR_plan_69 rfl ?_
                  refine rk_if_lt 86 dR_plan_70 (by decide) (fun q_70 => ?_) (fun q_70 => ?_)
                  · refine rk_iload_n dR_plan_86 rfl ?_
                    refine rk_istore_n dR_plan_87 (Nat.le_of_ble_eq_true rfl) ?_
                    first | exact no (fun z => q_57 ((e2 i).mpr z.1)) | exact no (fun z => eP.mp q_66 z.2.1) | exact yes ⟨(e2 i).mp (by first | exact q_57 | exact Decidable.not_not.mp q_57), Decidable.not_not.mp (mt eP.mpr q_66), rfl⟩
                  · exact absurd (by decide) q_70
          | some w =>
            have hw := hq w rfl
            have cw := (hbd w hw).ce
            have ec : nI (X.N i).ce ≤ nI (X.N w).ce ↔ (X.N i).ce ≤ (X.N w).ce := nI_leI (by omega) (by omega)
            refine rk_iload_n dR_plan_42 rfl ?_
            refine rk_aload_n dR_plan_43 rfl ?_
            refine rk_getf fR_106 dR_plan_44 k.m rfl ?_
            first | simp only [wro_no, wst_no, wsp_no, wla_no, wsn_no, wpl_no, wpk_no] | skip
            refine rk_icmp_ge 94 dR_plan_47 (by decide) (fun q_47 => ?_) (fun q_47 => ?_)
            · exact absurd q_47 (nI_ge (by omega) (by omega))
            · refine rk_aload_n dR_plan_50 rfl ?_
              refine rk_getf fR_67 dR_plan_51 k.m rfl ?_
              refine rk_iload_n dR_plan_54 rfl ?_
              refine rk_iald dR_plan_55 k.ro (vp_in_nI (show i < 14 by omega) (by omega)) ?_
              rw [nI_clamp (show i < 2 ^ 31 by omega), hRi]
              refine rk_iconst (v := 2) dR_plan_56 (by decide) ?_
              refine rk_icmp_ne 88 dR_plan_57 (by decide) (fun q_57 => ?_) (fun q_57 => ?_)
              · first | exact no (fun z => q_57 ((e2 i).mpr z.1)) | exact no (fun z => eP.mp q_66 z.2.1) | exact no (fun z => absurd (of_decide_eq_true z.2.2) (Nat.not_lt.mpr (ec.mp q_83))) | exact yes ⟨(e2 i).mp (by first | exact q_57 | exact Decidable.not_not.mp q_57), Decidable.not_not.mp (mt eP.mpr q_66), decide_eq_true (Nat.not_le.mp (mt ec.mpr q_83))⟩
              · refine rk_aload_n dR_plan_60 rfl ?_
                refine rk_getf fR_76 dR_plan_61 k.m rfl ?_
                refine rk_iload_n dR_plan_64 rfl ?_
                refine rk_iald dR_plan_65 k.pl (vp_in_nI (show i < 14 by omega) (by omega)) ?_
                rw [nI_clamp (show i < 2 ^ 31 by omega), hPi]
                refine rk_if_ge 88 dR_plan_66 (by decide) (fun q_66 => ?_) (fun q_66 => ?_)
                · first | exact no (fun z => q_57 ((e2 i).mpr z.1)) | exact no (fun z => eP.mp q_66 z.2.1) | exact no (fun z => absurd (of_decide_eq_true z.2.2) (Nat.not_lt.mpr (ec.mp q_83))) | exact yes ⟨(e2 i).mp (by first | exact q_57 | exact Decidable.not_not.mp q_57), Decidable.not_not.mp (mt eP.mpr q_66), decide_eq_true (Nat.not_le.mp (mt ec.mpr q_83))⟩
                · refine rk_iload_n dR_plan_69 rfl ?_
                  refine rk_if_lt 86 dR_plan_70 (by decide) (fun q_70 => ?_) (fun q_70 => ?_)
                  · exact absurd q_70 (nI_pos (by omega))
                  · refine rk_aload_n dR_plan_73 rfl ?_
                    refine rk_iload_n dR_plan_74 rfl ?_
                    refine rk_cvV (c_R_cells b A ((X.wpl f).wpk (nI pk)) k i (by omega)) cR_137 dR_plan_75 rfl lR_cells (Nat.le_of_ble_eq_true rfl) (Nat.le_of_ble_eq_true rfl) (Nat.le_of_ble_eq_true rfl) (Nat.le_of_ble_eq_true rfl) k.m ?_
                    refine rk_aload_n dR_plan_78 rfl ?_
                    refine rk_iload_n dR_plan_79 rfl ?_
                    refine rk_cvV (c_R_cells b A ((X.wpl f).wpk (nI pk)) k w (by omega)) cR_137 dR_plan_80 rfl lR_cells (Nat.le_of_ble_eq_true rfl) (Nat.le_of_ble_eq_true rfl) (Nat.le_of_ble_eq_true rfl) (Nat.le_of_ble_eq_true rfl) k.m ?_
                    refine rk_icmp_le 88 dR_plan_83 (by decide) (fun q_83 => ?_) (fun q_83 => ?_)
                    · first | exact no (fun z => q_57 ((e2 i).mpr z.1)) | exact no (fun z => eP.mp q_66 z.2.1) | exact no (fun z => absurd (of_decide_eq_true z.2.2) (Nat.not_lt.mpr (ec.mp q_83))) | exact yes ⟨(e2 i).mp (by first | exact q_57 | exact Decidable.not_not.mp q_57), Decidable.not_not.mp (mt eP.mpr q_66), decide_eq_true (Nat.not_le.mp (mt ec.mpr q_83))⟩
                    · refine rk_iload_n dR_plan_86 rfl ?_
                      refine rk_istore_n dR_plan_87 (Nat.le_of_ble_eq_true rfl) ?_
                      first | exact no (fun z => q_57 ((e2 i).mpr z.1)) | exact no (fun z => eP.mp q_66 z.2.1) | exact no (fun z => absurd (of_decide_eq_true z.2.2) (Nat.not_lt.mpr (ec.mp q_83))) | exact yes ⟨(e2 i).mp (by first | exact q_57 | exact Decidable.not_not.mp q_57), Decidable.not_not.mp (mt eP.mpr q_66), decide_eq_true (Nat.not_le.mp (mt ec.mpr q_83))⟩
      refine rk_iload_n dR_plan_30 rfl ?_
      refine rk_aload_n dR_plan_31 rfl ?_
      refine rk_getf fR_152 dR_plan_32 k.m rfl ?_
      rw [show ((X.wpl f).wpk (nI pk)).sn = nI (cnt R X.no) from hsn]
      refine rk_icmp_ge 199 dR_plan_35 (by decide) (fun q_35 => ?_) (fun q_35 => ?_)
      · exact absurd q_35 (nI_ge (by omega) (by omega))
      · refine rk_iconst (v := -1) dR_plan_38 (by decide) ?_
        refine rk_istore_n dR_plan_39 (Nat.le_of_ble_eq_true rfl) ?_
        refine rk_iconst (v := 0) dR_plan_40 (by decide) ?_
        refine rk_istore_n dR_plan_41 (Nat.le_of_ble_eq_true rfl) ?_
        exact best X.no 0 none (by omega) (fun m hm => by cases hm) hbx
  have L1 : ∀ (k1 i : Nat) (f : Nat → Int32), i + k1 = X.no → (∀ j, j < i → f j = -1) → rk_Run mR_plan (2, 31, 0, 0) (paP b A X R T L) 7 [some (.ref (A 0)), some (.int (nI i)), none, none, none, none] [] (rv b A ((X.wpl f).wpk (nI 0))) (0, 0) := by
    intro k1
    induction k1 with
    | zero =>
      intro i f hi hf
      have hi : i = X.no := by omega
      subst hi
      refine rk_iload_n dR_plan_7 rfl ?_
      refine rk_aload_n dR_plan_8 rfl ?_
      refine rk_getf fR_106 dR_plan_9 k.m rfl ?_
      first | simp only [wro_no, wst_no, wsp_no, wla_no, wsn_no, wpl_no, wpk_no] | skip
      refine rk_icmp_ge 28 dR_plan_12 (by decide) (fun q_12 => ?_) (fun q_12 => ?_)
      · refine rk_iconst (v := 0) dR_plan_28 (by decide) ?_
        refine rk_istore_n dR_plan_29 (Nat.le_of_ble_eq_true rfl) ?_
        exact L2 (cnt R X.no) 0 f (by omega) (fun j hj => hf j hj)
      · exact absurd (nI_le (Nat.le_refl _) (by omega)) q_12
    | succ k1 ih =>
      intro i f hi hf
      refine rk_iload_n dR_plan_7 rfl ?_
      refine rk_aload_n dR_plan_8 rfl ?_
      refine rk_getf fR_106 dR_plan_9 k.m rfl ?_
      first | simp only [wro_no, wst_no, wsp_no, wla_no, wsn_no, wpl_no, wpk_no] | skip
      refine rk_icmp_ge 28 dR_plan_12 (by decide) (fun q_12 => ?_) (fun q_12 => ?_)
      · exact absurd q_12 (nI_ge (by omega) (by omega))
      · refine rk_aload_n dR_plan_15 rfl ?_
        refine rk_getf fR_76 dR_plan_16 k.m rfl ?_
        refine rk_iload_n dR_plan_19 rfl ?_
        refine rk_iconst (v := -1) dR_plan_20 (by decide) ?_
        refine rk_iast dR_plan_21 k.pl (vp_in_nI (show i < 14 by omega) (by omega)) ?_
        rw [k.upl]
        refine rk_iinc dR_plan_22 rfl (inc1 i) (Nat.le_of_ble_eq_true rfl) ?_
        refine rk_goto 7 dR_plan_25 (by decide) ?_
        rw [nI_clamp (show i < 2 ^ 31 by omega), pl_up, pl_pl]
        exact ih (i + 1) (upd f i (-1)) (by omega) (fun j hj => by unfold upd; split; rfl; exact hf j (by omega))
  refine rk_Con.of [some (.ref (A 0)), none, none, none, none, none] rfl (Nat.le_of_ble_eq_true rfl) (by decide +kernel) ?_
  refine rk_aload_n dR_plan_0 rfl ?_
  refine rk_iconst (v := 0) dR_plan_1 (by decide) ?_
  refine rk_putf pR_158 dR_plan_2 k.m (Nat.le_of_ble_eq_true rfl) rfl rfl ?_
  rw [k.upk]
  refine rk_iconst (v := 0) dR_plan_5 (by decide) ?_
  refine rk_istore_n dR_plan_6 (Nat.le_of_ble_eq_true rfl) ?_
  exact L1 X.no 0 X.pl (by omega) (fun j hj => absurd hj (Nat.not_lt_zero _))
