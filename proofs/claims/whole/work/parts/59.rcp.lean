/-! the reference: compile -/
theorem hitB_congr {N : Nat → aN} {T L L' : Nat → Nat} {PT : Nat → Option Nat} {x t m : Nat} (h : ∀ q, PT m = some q → togB T L x m = togB T L' x m) : hitB N T L PT x t m = hitB N T L' PT x t m := by
  unfold hitB
  cases hp : PT m with
  | none => rfl
  | some q => dsimp only; rw [h q hp]
theorem plT_congr {N : Nat → aN} {R T L L' : Nat → Nat} {n : Nat} (hbd : bdOK N n) (h : ∀ x m, x < n → m < n → R x = 2 → R m = 2 → togB T L x m = togB T L' x m) : ∀ r : Nat, r ≤ 14 → plT N R T L n r = plT N R T L' n r := by
  intro r
  induction r with
  | zero => intro _; rfl
  | succ r ih =>
    intro hr
    have hK := (plT_all (N := N) (R := R) (T := T) (L := L') (n := n) hbd r (by omega)).1.1
    rw [plT_s, plT_s, ih (by omega)]
    generalize plT N R T L' n r = q at hK
    unfold plS
    cases hb : bigO N R n q.1 with
    | none => rfl
    | some x =>
      obtain ⟨b1, b2, b3⟩ := bigO_ok hb
      have e : lfS N T L n q.1 x = lfS N T L' n q.1 x := by
        unfold lfS
        refine fstA_congr (fun t _ _ => ?_)
        unfold freeB
        rw [fstA_congr (q := hitB N T L' q.1 x t) (fun m _ hm => hitB_congr (fun z hz => h x m b1 (by omega) b2 (hK m z hz).1.2))]
      dsimp only
      rw [e]
theorem lvR_tog {N : Nat → aN} {n out x m : Nat} (hx : x < n) (hm : m < n) (rx : pR N n out x = 2) (rm : pR N n out m = 2) : togB (pT N n out) (lvR N n out) x m = togB (pT N n out) (pL N n out) x m := by
  have key : ∀ a c, a < n → pR N n out a = 2 → decide (pT N n out a ≤ lvR N n out c) = decide (pT N n out a ≤ pL N n out c) := by
    intro a c ha hr
    have := cnt_pos ha hr
    rw [decide_eq_decide]
    unfold lvR pL lvF pT pO
    by_cases hc : c = stS N out
    · rw [if_pos hc, if_pos hc]; omega
    · rw [if_neg hc, if_neg hc]
  unfold togB
  rw [key x m hx rx, key m x hm rm]
theorem lvR_b {N : Nat → aN} {n out i : Nat} (hn : n ≤ 14) (hi : i < n) : lvR N n out i ≤ 14 := by
  unfold lvR
  by_cases hc : i = stS N out
  · rw [if_pos hc]
    have := cnt_le (R := pR N n out) (k := n)
    omega
  · rw [if_neg hc]
    have := lvF_le (N := N) (S := stS N) (R := pR N n out) (o := stS N out) hi
    unfold lvF at this
    rw [if_neg hc] at this
    omega
/-- all but what is planned -/
def rSame (Z Y : rX) : Prop := (Z.N = Y.N ∧ Z.no = Y.no ∧ Z.w = Y.w ∧ Z.ws = Y.ws) ∧ (Z.ou = Y.ou ∧ Z.fe = Y.fe ∧ Z.fa = Y.fa) ∧ (Z.an = Y.an ∧ Z.ar = Y.ar ∧ Z.sz = Y.sz ∧ Z.ss = Y.ss ∧ Z.sh = Y.sh)
theorem rSame.rf {Y : rX} : rSame Y Y := ⟨⟨rfl, rfl, rfl, rfl⟩, ⟨rfl, rfl, rfl⟩, rfl, rfl, rfl, rfl, rfl⟩
theorem rSame.st {Z Y : rX} (h : rSame Z Y) {f : Nat → Int32} : rSame (Z.wst f) Y := h
theorem rSame.ro {Z Y : rX} (h : rSame Z Y) {f : Nat → Int32} : rSame (Z.wro f) Y := h
theorem rSame.sp {Z Y : rX} (h : rSame Z Y) {f : Nat → Int32} : rSame (Z.wsp f) Y := h
theorem rSame.la {Z Y : rX} (h : rSame Z Y) {f : Nat → Int32} : rSame (Z.wla f) Y := h
theorem rSame.pl {Z Y : rX} (h : rSame Z Y) {f : Nat → Int32} : rSame (Z.wpl f) Y := h
theorem rSame.sn {Z Y : rX} (h : rSame Z Y) {v : Int32} : rSame (Z.wsn v) Y := h
theorem rSame.pk {Z Y : rX} (h : rSame Z Y) {v : Int32} : rSame (Z.wpk v) Y := h
theorem rSame.cm {Z Y : rX} (h : rSame Z Y) {v : Bool} : rSame (Z.wcm v) Y := h
theorem wsn_st {X : rX} {v : Int32} : (X.wsn v).st = X.st := rfl
theorem wla_st {X : rX} {f : Nat → Int32} : (X.wla f).st = X.st := rfl
theorem wsp_st {X : rX} {f : Nat → Int32} : (X.wsp f).st = X.st := rfl
theorem li_st {X : rX} {f g : Nat → Int32} {v : Int32} : (((X.wsp f).wla g).wsn v).st = X.st := by rw [wsn_st, wla_st, wsp_st]
theorem wsn_ro {X : rX} {v : Int32} : (X.wsn v).ro = X.ro := rfl
theorem wla_ro {X : rX} {f : Nat → Int32} : (X.wla f).ro = X.ro := rfl
theorem wsp_ro {X : rX} {f : Nat → Int32} : (X.wsp f).ro = X.ro := rfl
theorem li_ro {X : rX} {f g : Nat → Int32} {v : Int32} : (((X.wsp f).wla g).wsn v).ro = X.ro := by rw [wsn_ro, wla_ro, wsp_ro]
theorem wla_sp {X : rX} {f : Nat → Int32} : (X.wla f).sp = X.sp := rfl
theorem li_sp {X : rX} {f g : Nat → Int32} {v : Int32} : (((X.wsp f).wla g).wsn v).sp = f := by rw [wsn_sp, wla_sp, wsp_sp]
theorem li_sn {X : rX} {v : Int32} : (X.wsn v).sn = v := rfl
theorem wpk_st {X : rX} {v : Int32} : (X.wpk v).st = X.st := rfl
theorem wpl_st {X : rX} {f : Nat → Int32} : (X.wpl f).st = X.st := rfl
theorem pa_st {X : rX} {f : Nat → Int32} {v : Int32} : ((X.wpl f).wpk v).st = X.st := by rw [wpk_st, wpl_st]
theorem wpk_ro {X : rX} {v : Int32} : (X.wpk v).ro = X.ro := rfl
theorem wpl_ro {X : rX} {f : Nat → Int32} : (X.wpl f).ro = X.ro := rfl
theorem pa_ro {X : rX} {f : Nat → Int32} {v : Int32} : ((X.wpl f).wpk v).ro = X.ro := by rw [wpk_ro, wpl_ro]
theorem wpk_sp {X : rX} {v : Int32} : (X.wpk v).sp = X.sp := rfl
theorem wpl_sp {X : rX} {f : Nat → Int32} : (X.wpl f).sp = X.sp := rfl
theorem pa_sp {X : rX} {f : Nat → Int32} {v : Int32} : ((X.wpl f).wpk v).sp = X.sp := by rw [wpk_sp, wpl_sp]
theorem wpk_sn {X : rX} {v : Int32} : (X.wpk v).sn = X.sn := rfl
theorem wpl_sn {X : rX} {f : Nat → Int32} : (X.wpl f).sn = X.sn := rfl
theorem pa_sn {X : rX} {f : Nat → Int32} {v : Int32} : ((X.wpl f).wpk v).sn = X.sn := by rw [wpk_sn, wpl_sn]
theorem wro_st {X : rX} {f : Nat → Int32} : (X.wro f).st = X.st := rfl
theorem wst_st {X : rX} {f : Nat → Int32} : (X.wst f).st = f := rfl
theorem wro_ro {X : rX} {f : Nat → Int32} : (X.wro f).ro = f := rfl
theorem wst_wst {X : rX} {f g : Nat → Int32} : (X.wst f).wst g = X.wst g := rfl
theorem wst_N {X : rX} {f : Nat → Int32} : (X.wst f).N = X.N := rfl
theorem wst_of {X : rX} : X.wst X.st = X := rfl
theorem rOK.pln {Z Y : rX} {s : aS} {o : Nat} (k : rOK Y s) (h : rSame Z Y) (ho : s.out = some o) (hp : plnR s.N s.n o Z) : rOK (Z.wcm true) s.wcomp := by
  obtain ⟨⟨a1, a2, a3, a4⟩, ⟨b1, b2⟩, c1, d1, ⟨e1, e2, e3⟩, f1, f2, f3, f4, f5⟩ := k
  obtain ⟨⟨h1, h2, h3, h4⟩, ⟨h5, h6, h7⟩, h8, h9, h10, h11, h12⟩ := h
  exact ⟨⟨h1.trans a1, h2.trans a2, h3.trans a3, h4.trans a4⟩, ⟨h5.trans b1, rfl⟩, fun i j hj => (congrFun h6 _).trans (c1 i j hj), fun _ => ⟨o, ho, hp⟩, ⟨h8.trans e1, e2, fun j hj => (congrFun h9 j).trans (e3 j hj)⟩, h10.trans f1, f2, h11.trans f3, f4, fun j hj => (congrFun h12 j).trans (f5 j hj)⟩
theorem c_R_cmpF (b : rk_H) (A : Nat → Nat) (Y : rX) (s : aS) (o : Nat) (k : rA A) (kY : rOK Y s) (ok : aOK s) (hfa : Y.fa = 0) (ho : s.out = some o) : ∀ (f : Nat → Int32), sfK f (stS Y.N) Y.no → rk_Run mR_compile (3, 48, 0, 0) (rPo b A (some (.int 0)) (opCompile s)) 39 [some (.ref (A 0)), none] [] (rv b A (Y.wst f)) (0, 0) := by
  have hn := ok.1.1
  have hwf := ok.1.2.1
  have hbd := hwf.bd
  have hin := hwf.inn
  obtain ⟨⟨a1, a2, a3, a4⟩, ⟨b1, b2⟩, c1, d1, e1, f1⟩ := id kY
  have hol := ok.2.1 o ho
  have hno : Y.no ≤ 14 := by rw [a2]; exact hn
  have hwf' : wfN Y.N Y.no := by rw [a1, a2]; exact hwf
  have hin' := wfN.inn hwf'
  have hbd' := wfN.bd hwf'
  have hol' : o < Y.no := by rw [a2]; exact hol
  have hSl := stS_le hin'
  have hou : Y.ou = some o := by rw [b1, ho]
  intro f hf
  refine rk_aload_n dR_compile_39 rfl ?_
  refine rk_cvG (c_R_findRoles b A (Y.wst f) k (stS Y.N) o hno hou hol' hwf' hf hSl) cR_169 dR_compile_40 rfl lR_findRoles (Nat.le_of_ble_eq_true rfl) (Nat.le_of_ble_eq_true rfl) (Nat.le_of_ble_eq_true rfl) (Nat.le_of_ble_eq_true rfl) k.m ?_
  rintro r_40 h_40 ⟨rfl, f2, rfl, hf2⟩
  refine rk_nx0 ?_
  skip
  obtain ⟨Z, hZ⟩ : ∃ Z : rX, Z = (Y.wst f).wro f2 := ⟨_, rfl⟩
  rw [← hZ]
  have s2 : rSame Z Y := by rw [hZ]; exact rSame.rf.st.ro
  have t2 : Z.st = f := by rw [hZ, wro_st, wst_st]
  have u2 : Z.ro = f2 := by rw [hZ, wro_ro]
  clear hZ
  have zN := s2.1.1
  have zn := s2.1.2.1
  have g1 : sfK Z.st (stS Z.N) Z.no := by rw [t2, zN, zn]; exact hf
  have g2 : sfK Z.ro (pR Z.N Z.no o) Z.no := by rw [u2, zN, zn]; exact hf2
  have zno : Z.no ≤ 14 := by rw [zn]; exact hno
  have zwf : wfN Z.N Z.no := by rw [zN, zn]; exact hwf'
  refine rk_aload_n dR_compile_43 rfl ?_
  refine rk_cvG (c_R_findLives b A Z k o zno (s2.2.1.1.trans hou) (by rw [zn]; exact hol') zwf g1 g2) cR_172 dR_compile_44 rfl lR_findLives (Nat.le_of_ble_eq_true rfl) (Nat.le_of_ble_eq_true rfl) (Nat.le_of_ble_eq_true rfl) (Nat.le_of_ble_eq_true rfl) k.m ?_
  rintro r_44 h_44 ⟨rfl, sp, la, rfl, hsp, hla⟩
  refine rk_nx0 ?_
  skip
  obtain ⟨V, hV⟩ : ∃ V : rX, V = ((Z.wsp sp).wla la).wsn (nI (cnt (pR Z.N Z.no o) Z.no)) := ⟨_, rfl⟩
  rw [← hV]
  have s3 : rSame V Y := by rw [hV]; exact s2.sp.la.sn
  have t3 : V.st = Z.st := by rw [hV, li_st]
  have u3 : V.ro = Z.ro := by rw [hV, li_ro]
  have w3 : V.sp = sp := by rw [hV, li_sp]
  have x3 : V.la = la := by rw [hV, wsn_la, wla_la]
  have y3 : V.sn = nI (cnt (pR Z.N Z.no o) Z.no) := by rw [hV, li_sn]
  clear hV
  rw [zN, zn] at hsp hla g1 g2 y3
  have vN := s3.1.1
  have vn := s3.1.2.1
  have vno : V.no ≤ 14 := by rw [vn]; exact hno
  have vbd : bdOK V.N V.no := by rw [vN, vn]; exact hbd'
  refine rk_aload_n dR_compile_47 rfl ?_
  refine rk_cvG (c_R_plan b A V k (pR Y.N Y.no o) (pT Y.N Y.no o) (lvR Y.N Y.no o) vno vbd (by rw [u3, vn]; exact g2) (pR_le Y.N Y.no o) (by rw [w3, vn]; exact hsp) (by rw [x3, vn]; exact hla) (fun i hi => by rw [vn] at hi; have := cnt_le (R := pR Y.N Y.no o) (k := i); unfold pT; omega) (fun i hi => by rw [vn] at hi; exact lvR_b hno hi) (by rw [y3, vn])) cR_175 dR_compile_48 rfl lR_plan (Nat.le_of_ble_eq_true rfl) (Nat.le_of_ble_eq_true rfl) (Nat.le_of_ble_eq_true rfl) (Nat.le_of_ble_eq_true rfl) k.m ?_
  rintro r_48 h_48 ⟨rfl, f3, rfl, hf3⟩
  refine rk_nx0 ?_
  skip
  rw [vN, vn] at hf3 ⊢
  have ept := plT_congr (R := pR Y.N Y.no o) (T := pT Y.N Y.no o) hbd' (fun x m hx hm rx rm => lvR_tog hx hm rx rm) (cnt (pR Y.N Y.no o) Y.no) (by have := cnt_le (R := pR Y.N Y.no o) (k := Y.no); omega)
  rw [ept] at hf3 ⊢
  obtain ⟨U, hU⟩ : ∃ U : rX, U = (V.wpl f3).wpk (nI (plT Y.N (pR Y.N Y.no o) (pT Y.N Y.no o) (pL Y.N Y.no o) Y.no (cnt (pR Y.N Y.no o) Y.no)).2) := ⟨_, rfl⟩
  rw [← hU]
  have s4 : rSame U Y := by rw [hU]; exact s3.pl.pk
  have t4 : U.st = V.st := by rw [hU, pa_st]
  have u4 : U.ro = V.ro := by rw [hU, pa_ro]
  have w4 : U.sp = V.sp := by rw [hU, pa_sp]
  have x4 : U.pl = f3 := by rw [hU, pl_pl]
  have y4 : U.sn = V.sn := by rw [hU, pa_sn]
  have z4 : U.pk = nI (plT Y.N (pR Y.N Y.no o) (pT Y.N Y.no o) (pL Y.N Y.no o) Y.no (cnt (pR Y.N Y.no o) Y.no)).2 := by rw [hU, pw_pk]
  clear hU
  have pn : plnR s.N s.n o U := by
    rw [← a1, ← a2]
    exact ⟨⟨by rw [t4, t3]; exact g1, by rw [u4, u3]; exact g2⟩, by rw [w4, w3]; exact hsp, by rw [x4]; exact hf3, by rw [y4, y3]; rfl, by rw [z4]; rfl⟩
  have hk := kY.pln s4 ho pn
  have hus : U.sn = nI (pK s.N s.n o) := pn.2.2.2.1
  have huf : U.fa = 0 := s4.2.1.2.2.trans hfa
  refine rk_aload_n dR_compile_51 rfl ?_
  refine rk_iconst (v := 1) dR_compile_52 (by decide) ?_
  refine rk_putf pR_109 dR_compile_53 k.m (Nat.le_of_ble_eq_true rfl) rfl rfl ?_
  first | rw [k.ucm0] | rw [k.ucm1]
  refine rk_aload_n dR_compile_56 rfl ?_
  refine rk_getf fR_152 dR_compile_57 k.m rfl ?_
  rw [show (U.wcm true).sn = nI (pK s.N s.n o) from hus]
  exact rk_iret rfl dR_compile_60 ⟨(Nat.le_of_ble_eq_true rfl), (Nat.le_of_ble_eq_true rfl)⟩ (rPo.go (by unfold opCompile; rw [ho]) huf hk)
theorem c_R_cmpL (b : rk_H) (A : Nat → Nat) (Y : rX) (s : aS) (o : Nat) (k : rA A) (kY : rOK Y s) (ok : aOK s) (hfa : Y.fa = 0) (ho : s.out = some o) : ∀ (k1 i : Nat) (f : Nat → Int32), i + k1 = Y.no → sfK f (stS Y.N) i → rk_Run mR_compile (3, 48, 0, 0) (rPo b A (some (.int 0)) (opCompile s)) 20 [some (.ref (A 0)), some (.int (nI i))] [] (rv b A (Y.wst f)) (0, 0) := by
  have hn := ok.1.1
  have hwf := ok.1.2.1
  have hbd := hwf.bd
  have hin := hwf.inn
  obtain ⟨⟨a1, a2, a3, a4⟩, ⟨b1, b2⟩, c1, d1, e1, f1⟩ := id kY
  have hol := ok.2.1 o ho
  have hno : Y.no ≤ 14 := by rw [a2]; exact hn
  have hwf' : wfN Y.N Y.no := by rw [a1, a2]; exact hwf
  have hin' := wfN.inn hwf'
  have hbd' := wfN.bd hwf'
  have hol' : o < Y.no := by rw [a2]; exact hol
  have hSl := stS_le hin'
  have hou : Y.ou = some o := by rw [b1, ho]
  intro k1
  induction k1 with
  | zero =>
    intro i f hi hf
    have hi : i = Y.no := by omega
    subst hi
    refine rk_iload_n dR_compile_20 rfl ?_
    refine rk_aload_n dR_compile_21 rfl ?_
    refine rk_getf fR_106 dR_compile_22 k.m rfl ?_
    first | simp only [wro_no, wst_no, wsp_no, wla_no, wsn_no, wpl_no, wpk_no] | skip
    refine rk_icmp_ge 39 dR_compile_25 (by decide) (fun q_25 => ?_) (fun q_25 => ?_)
    · refine rk_lv [some (.ref (A 0)), none] ⟨rfl, trivial⟩ ?_
      exact c_R_cmpF b A Y s o k kY ok hfa ho f hf
    · exact absurd (nI_le (Nat.le_refl _) (by omega)) q_25
  | succ k1 ih =>
    intro i f hi hf
    refine rk_iload_n dR_compile_20 rfl ?_
    refine rk_aload_n dR_compile_21 rfl ?_
    refine rk_getf fR_106 dR_compile_22 k.m rfl ?_
    first | simp only [wro_no, wst_no, wsp_no, wla_no, wsn_no, wpl_no, wpk_no] | skip
    refine rk_icmp_ge 39 dR_compile_25 (by decide) (fun q_25 => ?_) (fun q_25 => ?_)
    · exact absurd q_25 (nI_ge (by omega) (by omega))
    · refine rk_aload_n dR_compile_28 rfl ?_
      refine rk_iload_n dR_compile_29 rfl ?_
      refine rk_cv0 (c_R_findStands b A (Y.wst f) k (stS Y.N) i (by omega) (hwf' i (by omega)) (fun j hj => hin' j (by omega)) (fun j hj => hbd' j (by omega)) hf (fun j hj => hSl j (by omega))) cR_165 dR_compile_30 rfl lR_findStands (Nat.le_of_ble_eq_true rfl) (Nat.le_of_ble_eq_true rfl) (Nat.le_of_ble_eq_true rfl) (Nat.le_of_ble_eq_true rfl) k.m ?_
      refine rk_iinc dR_compile_33 rfl (inc1 i) (Nat.le_of_ble_eq_true rfl) ?_
      refine rk_goto 20 dR_compile_36 (by decide) ?_
      rw [wst_wst, wst_st, wst_N]
      refine ih (i + 1) (upd f i (nI (stOf Y.N (stS Y.N) i))) (by omega) (fun j hj => ?_)
      unfold upd
      by_cases hz : j = i
      · rw [if_pos hz, hz, ← stS_eq hin' (show i < Y.no by omega)]
      · rw [if_neg hz]; exact hf j (by omega)
theorem c_R_compile (b : rk_H) (A : Nat → Nat) (X : rX) (s : aS) (k : rA A) (kX : rOK X s) (ok : aOK s) : rk_Con mR_compile (3, 48, 0, 0) [.ref (A 0)] (rv b A X) (rPo b A (some (.int 0)) (opCompile s)) := by
  have hn := ok.1.1
  have hwf := ok.1.2.1
  have hbd := hwf.bd
  have hin := hwf.inn
  refine rk_Con.of [some (.ref (A 0)), none] rfl (Nat.le_of_ble_eq_true rfl) (by decide +kernel) ?_
  refine rk_aload_n dR_compile_0 rfl ?_
  refine rk_iconst (v := 0) dR_compile_1 (by decide) ?_
  refine rk_putf pR_85 dR_compile_2 k.m (Nat.le_of_ble_eq_true rfl) rfl rfl ?_
  rw [k.ufa]
  skip
  have kY : rOK (X.wfa 0) s := kX
  have hfa : (X.wfa 0).fa = 0 := rfl
  generalize X.wfa 0 = Y at kY hfa ⊢
  obtain ⟨⟨a1, a2, a3, a4⟩, ⟨b1, b2⟩, c1, d1, e1, f1⟩ := id kY
  cases ho : s.out with
  | none =>
    refine rk_aload_n dR_compile_5 rfl ?_
    refine rk_getf fR_60 dR_compile_6 k.m rfl ?_
    rw [b1, ho]
    refine rk_if_ge 18 dR_compile_9 (by decide) (fun q_9 => ?_) (fun q_9 => ?_)
    · exact absurd q_9 (by decide)
    · refine rk_aload_n dR_compile_12 rfl ?_
      refine rk_iconst (v := 1) dR_compile_13 (by decide) ?_
      refine rk_cvV (c_R_fail b A Y k 1) cR_98 dR_compile_14 rfl lR_fail (Nat.le_of_ble_eq_true rfl) (Nat.le_of_ble_eq_true rfl) (Nat.le_of_ble_eq_true rfl) (Nat.le_of_ble_eq_true rfl) k.m ?_
      exact rk_iret rfl dR_compile_17 ⟨(Nat.le_of_ble_eq_true rfl), (Nat.le_of_ble_eq_true rfl)⟩ (rPo.fl (c := 1) kY (by unfold opCompile; rw [ho]) (by decide))
  | some o =>
    have hol := ok.2.1 o ho
    have hno : Y.no ≤ 14 := by rw [a2]; exact hn
    have hwf' : wfN Y.N Y.no := by rw [a1, a2]; exact hwf
    have hin' := wfN.inn hwf'
    have hbd' := wfN.bd hwf'
    have hol' : o < Y.no := by rw [a2]; exact hol
    have hSl := stS_le hin'
    have hou : Y.ou = some o := by rw [b1, ho]
    refine rk_aload_n dR_compile_5 rfl ?_
    refine rk_getf fR_60 dR_compile_6 k.m rfl ?_
    rw [hou]
    refine rk_if_ge 18 dR_compile_9 (by decide) (fun q_9 => ?_) (fun q_9 => ?_)
    · refine rk_iconst (v := 0) dR_compile_18 (by decide) ?_
      refine rk_istore_n dR_compile_19 (Nat.le_of_ble_eq_true rfl) ?_
      have e := c_R_cmpL b A Y s o k kY ok hfa ho Y.no 0 Y.st (by omega) (fun j hj => absurd hj (Nat.not_lt_zero _))
      rw [wst_of] at e
      exact e
    · exact absurd (show 0 ≤ nI o from nI_pos' (by omega)) q_9
