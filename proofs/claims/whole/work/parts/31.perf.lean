/-! Machine.doStep, Machine.perform -/
theorem rk_mono {M : rk_M} {B : rk_B} {P P' : rk_P} {pc : Nat} {lv : List (Option Value)} {st : List Value} {h : rk_H} {u : rk_U} (hP : ∀ r h', P r h' → P' r h') (r : rk_Run M B P pc lv st h u) : rk_Run M B P' pc lv st h u := by
  intro l p e R s m args below meth c G H locs ls C hR hS hf hl
  refine rk_Wmono ?_ (r l p e R s m args below meth c G H locs ls C hR hS hf hl)
  rintro t ⟨o, h1, h2, ⟨⟨r, h', q1, q2, q3⟩, q4⟩, h4⟩
  exact ⟨o, h1, h2, ⟨⟨r, h', q1, hP r h' q2, q3⟩, q4⟩, h4⟩
theorem gOK_mv {h : rk_H} {a0 gb : Nat} {M : mR} {wt : Nat → Int32} {A : gA} {n : Nat} {N : Nat → aN} {na : Nat → Option Nat} {ad fe : Nat → Nat} (k : mOK h a0 M wt) (kg : gOK h gb A n N na ad fe) (w : wR) (p q : Int64 × Int32) (f : Nat → Int32) : gOK (mv h M w p q f) gb A n N na ad fe := by
  obtain ⟨⟨⟨X, x0, x1, x2, x3, x4, x5, x6⟩, hn⟩, ⟨y1, y2⟩, z⟩ := kg
  exact ⟨⟨⟨X, x0, k.mg x1, k.mi x2 (by decide), k.mi x3 (by decide), k.mi x4 (by decide), k.mi x5 (by decide), k.mi x6 (by decide)⟩, hn⟩, ⟨k.mq y1, fun i hi => ⟨(y2 i hi).1, k.mn (y2 i hi).2⟩⟩, z⟩
/-- the graph's contents in a heap -/
def gIs (h : rk_H) (b : Nat) (A : gA) (X : gX) : Prop := h b = some (oB 0 (gls A X)) ∧ h A.sf = some (iA 14 X.sf) ∧ h A.st = some (iA 14 X.st) ∧ h A.sp = some (iA 14 X.sp) ∧ h A.pl = some (iA 14 X.pl) ∧ h A.la = some (iA 14 X.la)
theorem gIs.id {h : rk_H} {b : Nat} {A : gA} {X : gX} (k : gIs h b A X) : gv h b A X = h := by
  obtain ⟨k0, k1, k2, k3, k4, k5⟩ := k
  unfold gv
  rw [rk_up_id k0, rk_up_id k1, rk_up_id k2, rk_up_id k3, rk_up_id k4, rk_up_id k5]
theorem gIs.mv {h : rk_H} {a0 b : Nat} {M : mR} {wt : Nat → Int32} {A : gA} {X : gX} (k : mOK h a0 M wt) (g : gIs h b A X) (w : wR) (p q : Int64 × Int32) (f : Nat → Int32) : gIs (mv h M w p q f) b A X :=
  ⟨k.mg g.1, k.mi g.2.1 (by decide), k.mi g.2.2.1 (by decide), k.mi g.2.2.2.1 (by decide), k.mi g.2.2.2.2.1 (by decide), k.mi g.2.2.2.2.2 (by decide)⟩
def plN (PT : Nat → Option Nat) (x : Nat) : Nat := (PT x).getD 0
def plO (S : Nat → Nat) (PT : Nat → Option Nat) (o : Option Nat) : Nat := match o with
  | none => 0
  | some a => plN PT (S a)
/-- the cells that a placed node writes, from an arena -/
def vM (N : Nat → aN) (wt : Nat → Int32) (S R : Nat → Nat) (PT : Nat → Option Nat) (fd : Nat → Nat → Int32) (m : Nat) (f : Nat → Int32) (j : Nat) : Int32 := match fuO N S R m with
  | none => vI N wt m (fd m) (fun z => f (plO S PT (N m).one + z)) (fun z => f (plO S PT (N m).two + z)) j
  | some i => s_clp (N m).lo (N m).hi (vI N wt i (fd i) (fun z => f (plO S PT (N i).one + z)) (fun z => f (plO S PT (N i).two + z)) j)
def runS (N : Nat → aN) (wt : Nat → Int32) (S R : Nat → Nat) (PT : Nat → Option Nat) (fd : Nat → Nat → Int32) (m : Nat) (f : Nat → Int32) : Nat → Int32 := if R m = 2 then stp (plN PT m) (N m).ce (vM N wt S R PT fd m f) f else f
/-- the plan keeps apart what a step reads and what it writes -/
def rnK (N : Nat → aN) (S R : Nat → Nat) (PT : Nat → Option Nat) (n : Nat) : Prop := ∀ m : Nat, m < n → R m = 2 → (∃ t, PT m = some t ∧ t + (N m).ce ≤ 1792) ∧ (N (rdr N S R m)).ce = (N m).ce ∧
  ∀ a : Nat, ((N (rdr N S R m)).one = some a ∨ (N (rdr N S R m)).two = some a) → (∃ fr, PT (S a) = some fr ∧ fr + (N a).ce ≤ 1792 ∧ (fr + (N a).ce ≤ plN PT m ∨ plN PT m + (N m).ce ≤ fr))
/-- the fed cells lie in their rows -/
def fdK (h : rk_H) (N : Nat → aN) (n : Nat) (fe : Nat → Nat) (fd : Nat → Nat → Int32) : Prop := ∀ i : Nat, i < n → (N i).kd = 0 → h (fe i) = some (iA (N i).ce (fd i))
theorem c_M_doStep (a0 gb : Nat) (M : mR) (A : gA) (X : gX) (n : Nat) (N : Nat → aN) (na : Nat → Option Nat) (ad fe S R : Nat → Nat) (PT : Nat → Option Nat) (m : Nat) (fd : Nat → Nat → Int32) (f wt : Nat → Int32) (h : rk_H) (w : wR) (p q : Int64 × Int32) (k : mOK h a0 M wt) (kg : gOK h gb A n N na ad fe) (g : gIs h gb A X) (hwf : wfN N n) (hS : sfK X.sf S n) (hSl : ∀ j : Nat, j < n → S j ≤ j) (hR : sfK X.st R n) (hR2 : ∀ j : Nat, R j ≤ 2) (hP : plR X.pl PT n) (hK : rnK N S R PT n) (hfd : fdK h N n fe fd) (hm : m < n) (hrm : R m = 2) :
    rk_Con mM_doStep (5, 94, 0, 0) [.ref a0, .ref gb, .int (nI m)] (mv h M w p q f) (mP h M (runS N wt S R PT fd m f)) := by
  have hn := kg.n14
  obtain ⟨⟨t, ht, htb⟩, hce, hops⟩ := hK m hm hrm
  have epn : plN PT m = t := by unfold plN; rw [ht]; rfl
  rw [epn] at hops
  have hpm : X.pl m = nI t := by rw [hP m hm, ht]; rfl
  have eg : mv h M w p q f gb = some (oB 0 (gls A X)) := k.mg g.1
  have epl : mv h M w p q f A.pl = some (iA 14 X.pl) := k.mi g.2.2.2.2.1 (by decide)
  have ena : mv h M w p q f A.na = some (qA 14 na) := k.mq kg.2.1.1
  have e1 : mv h M w p q f a0 = some (oB 1 M.ls) := k.ma
  have hqm := (kg.2.1.2 m hm).1
  have em : mv h M w p q f (ad m) = some (oB 2 (nLi N fe m)) := k.mn (kg.2.1.2 m hm).2
  have cf := c_G_fusedInto gb A n N na ad fe S R m X (mv h M w p q f) (gOK_mv k kg w p q f) hwf.inn hS hSl hR (fun j _ => hR2 j) hm
  rw [(gIs.mv k g w p q f).id] at cf
  have hr := rdr_le (R := R) hwf.inn hSl hm
  have ops : ∀ a : Nat, ((N (rdr N S R m)).one = some a ∨ (N (rdr N S R m)).two = some a) → opK X S N a (plN PT (S a)) t (N (rdr N S R m)).ce := by
    intro a ha
    obtain ⟨fr, q1, q2, q3⟩ := hops a ha
    have hal : a < n := by
      rcases ha with ha | ha
      · have := (hwf.inn _ (by omega)).1 a ha; omega
      · have := (hwf.inn _ (by omega)).2 a ha; omega
    have hsl := hSl a hal
    have ep : plN PT (S a) = fr := by unfold plN; rw [q1]; rfl
    rw [ep]
    exact ⟨⟨by omega, hS a hal, by omega, by rw [hP (S a) (by omega), q1]; rfl⟩, q2, by rw [hce]; exact q3⟩
  have o1 : ∀ a, (N (rdr N S R m)).one = some a → opK X S N a (plO S PT (N (rdr N S R m)).one) t (N (rdr N S R m)).ce := fun a ha => by rw [ha]; exact ops a (Or.inl ha)
  have o2 : ∀ a, (N (rdr N S R m)).two = some a → opK X S N a (plO S PT (N (rdr N S R m)).two) t (N (rdr N S R m)).ce := fun a ha => by rw [ha]; exact ops a (Or.inr ha)
  have cc := c_M_compute a0 gb M A X n N na ad fe S (rdr N S R m) (plO S PT (N (rdr N S R m)).one) (plO S PT (N (rdr N S R m)).two) t f (fd (rdr N S R m)) wt h w p q k kg g.1 g.2.1 g.2.2.2.2.1 hwf (by omega) (fun hk => hfd _ (by omega) hk) (by omega) o1 o2
  have hfu : (fuO N S R m = none ∧ rdr N S R m = m) ∨ ∃ a, fuO N S R m = some a ∧ rdr N S R m = a := by
    unfold rdr
    cases fuO N S R m with
    | none => exact Or.inl ⟨rfl, rfl⟩
    | some a => exact Or.inr ⟨a, rfl, rfl⟩
  refine rk_Con.of [some (.ref a0), some (.ref gb), some (.int (nI m)), none, none] rfl (Nat.le_of_ble_eq_true rfl) (by decide +kernel) ?_
  rcases hfu with ⟨hf1, hf2⟩ | ⟨c, hf1, hf2⟩
  · rw [show ((N m).one.map S).filter (fun a => decide (R a = 1)) = none from hf1] at cf
    rw [hf2] at cc
    have hF : stp t (N m).ce (vI N wt m (fd m) (fun j => f (plO S PT (N m).one + j)) (fun j => f (plO S PT (N m).two + j))) f = runS N wt S R PT fd m f := by
      unfold runS
      rw [if_pos hrm, epn]
      refine stp_congr (fun j hj => ?_)
      unfold vM
      rw [hf1]
    rw [hF] at cc
    refine rk_aload_n dM_doStep_0 rfl ?_
    refine rk_getf fM_61 dM_doStep_1 (by first | exact e1 | exact eg | exact epl | exact ena | exact em | assumption) rfl ?_
    refine rk_iload_n dM_doStep_4 rfl ?_
    refine rk_iald dM_doStep_5 (by first | exact e1 | exact eg | exact epl | exact ena | exact em | assumption) (vp_in_nI (show m < 14 by omega) (by omega)) ?_
    rw [nI_clamp (show m < 2 ^ 31 by omega), hpm]
    refine rk_istore_n dM_doStep_6 (Nat.le_of_ble_eq_true rfl) ?_
    refine rk_aload_n dM_doStep_7 rfl ?_
    refine rk_iload_n dM_doStep_8 rfl ?_
    refine rk_cvV (cf) cM_89 dM_doStep_9 rfl lG_fusedInto (Nat.le_of_ble_eq_true rfl) (Nat.le_of_ble_eq_true rfl) (Nat.le_of_ble_eq_true rfl) (Nat.le_of_ble_eq_true rfl) (by first | exact e1 | exact eg | exact epl | exact ena | exact em | assumption) ?_
    refine rk_istore dM_doStep_12 (Nat.le_of_ble_eq_true rfl) ?_
    refine rk_iload dM_doStep_14 rfl ?_
    refine rk_iconst (v := -1) dM_doStep_16 (by decide) ?_
    refine rk_icmp_ne 35 dM_doStep_17 (by decide) (fun q_17 => ?_) (fun q_17 => ?_)
    · exact absurd rfl q_17
    · refine rk_aload_n dM_doStep_20 rfl ?_
      refine rk_aload_n dM_doStep_21 rfl ?_
      refine rk_aload_n dM_doStep_22 rfl ?_
      refine rk_getf fM_67 dM_doStep_23 (by first | exact e1 | exact eg | exact epl | exact ena | exact em | assumption) rfl ?_
      refine rk_iload_n dM_doStep_26 rfl ?_
      refine rk_aald rfl dM_doStep_27 (by first | exact e1 | exact eg | exact epl | exact ena | exact em | assumption) (vp_in_nI (show m < 14 by omega) (by omega)) (v_nd (by omega) hqm) ?_
      refine rk_iload_n dM_doStep_28 rfl ?_
      refine rk_cvG (cc) cM_92 dM_doStep_29 rfl lM_compute (Nat.le_of_ble_eq_true rfl) (Nat.le_of_ble_eq_true rfl) (Nat.le_of_ble_eq_true rfl) (Nat.le_of_ble_eq_true rfl) (by first | exact e1 | exact eg | exact epl | exact ena | exact em | assumption) ?_
      rintro r_29 h_29 ⟨rfl, w1, p1, q1, rfl⟩
      refine rk_nx0 ?_
      refine rk_goto 60 dM_doStep_32 (by decide) ?_
      exact rk_ret rfl dM_doStep_60 ⟨(Nat.le_of_ble_eq_true rfl), (Nat.le_of_ble_eq_true rfl)⟩ (⟨rfl, _, _, _, rfl⟩)
  · rw [show ((N m).one.map S).filter (fun a => decide (R a = 1)) = some c from hf1] at cf
    rw [hf2] at cc hce hr
    have hqc := (kg.2.1.2 c (by omega)).1
    have hac : ∀ (w : wR) (p q : Int64 × Int32) (f : Nat → Int32), a0 ≠ M.ce := fun w p q f => rk_neq e1 mv_ce (by intro q; cases q)
    have hbc : ad m ≠ M.ce := rk_neq em mv_ce (by intro q; cases q)
    have hF : itf (g_hold (nMi N fe m).lo (nMi N fe m).hi t) t (N m).ce (stp t (N m).ce (vI N wt c (fd c) (fun j => f (plO S PT (N c).one + j)) (fun j => f (plO S PT (N c).two + j))) f) = runS N wt S R PT fd m f := by
      unfold runS
      rw [if_pos hrm, epn]
      have e9 : stp t (N m).ce (vM N wt S R PT fd m f) (stp t (N m).ce (vI N wt c (fd c) (fun j => f (plO S PT (N c).one + j)) (fun j => f (plO S PT (N c).two + j))) f) = stp t (N m).ce (vM N wt S R PT fd m f) f := by
        funext j
        unfold stp
        by_cases hj : t ≤ j ∧ j < t + (N m).ce
        · rw [if_pos hj, if_pos hj]
        · rw [if_neg hj, if_neg hj, if_neg hj]
      rw [← e9]
      refine itf_stp (fun i2 hi2 f' hf' => ?_)
      unfold g_hold vM
      rw [hf1, hf' (t + i2) (Or.inr (by omega)), stp_in hi2]
      rfl
    rw [hce] at cc
    refine rk_aload_n dM_doStep_0 rfl ?_
    refine rk_getf fM_61 dM_doStep_1 (by first | exact e1 | exact eg | exact epl | exact ena | exact k.ma | exact k.mg g.1 | exact k.mq kg.2.1.1 | assumption) rfl ?_
    refine rk_iload_n dM_doStep_4 rfl ?_
    refine rk_iald dM_doStep_5 (by first | exact e1 | exact eg | exact epl | exact ena | exact k.ma | exact k.mg g.1 | exact k.mq kg.2.1.1 | assumption) (vp_in_nI (show m < 14 by omega) (by omega)) ?_
    rw [nI_clamp (show m < 2 ^ 31 by omega), hpm]
    refine rk_istore_n dM_doStep_6 (Nat.le_of_ble_eq_true rfl) ?_
    refine rk_aload_n dM_doStep_7 rfl ?_
    refine rk_iload_n dM_doStep_8 rfl ?_
    refine rk_cvV (cf) cM_89 dM_doStep_9 rfl lG_fusedInto (Nat.le_of_ble_eq_true rfl) (Nat.le_of_ble_eq_true rfl) (Nat.le_of_ble_eq_true rfl) (Nat.le_of_ble_eq_true rfl) (by first | exact e1 | exact eg | exact epl | exact ena | exact k.ma | exact k.mg g.1 | exact k.mq kg.2.1.1 | assumption) ?_
    rw [show oI (some c) = nI c from rfl]
    refine rk_istore dM_doStep_12 (Nat.le_of_ble_eq_true rfl) ?_
    refine rk_iload dM_doStep_14 rfl ?_
    refine rk_iconst (v := -1) dM_doStep_16 (by decide) ?_
    refine rk_icmp_ne 35 dM_doStep_17 (by decide) (fun q_17 => ?_) (fun q_17 => ?_)
    · refine rk_aload_n dM_doStep_35 rfl ?_
      refine rk_aload_n dM_doStep_36 rfl ?_
      refine rk_aload_n dM_doStep_37 rfl ?_
      refine rk_getf fM_67 dM_doStep_38 (by first | exact e1 | exact eg | exact epl | exact ena | exact k.ma | exact k.mg g.1 | exact k.mq kg.2.1.1 | assumption) rfl ?_
      refine rk_iload dM_doStep_41 rfl ?_
      refine rk_aald rfl dM_doStep_43 (by first | exact e1 | exact eg | exact epl | exact ena | exact k.ma | exact k.mg g.1 | exact k.mq kg.2.1.1 | assumption) (vp_in_nI (show c < 14 by omega) (by omega)) (v_nd (by omega) hqc) ?_
      refine rk_iload_n dM_doStep_44 rfl ?_
      refine rk_cvG (cc) cM_92 dM_doStep_45 rfl lM_compute (Nat.le_of_ble_eq_true rfl) (Nat.le_of_ble_eq_true rfl) (Nat.le_of_ble_eq_true rfl) (Nat.le_of_ble_eq_true rfl) (by first | exact e1 | exact eg | exact epl | exact ena | exact k.ma | exact k.mg g.1 | exact k.mq kg.2.1.1 | assumption) ?_
      rintro r_45 h_45 ⟨rfl, w1, p1, q1, rfl⟩
      refine rk_nx0 ?_
      refine rk_aload_n dM_doStep_48 rfl ?_
      refine rk_aload_n dM_doStep_49 rfl ?_
      refine rk_getf fM_67 dM_doStep_50 (by first | exact e1 | exact eg | exact epl | exact ena | exact k.ma | exact k.mg g.1 | exact k.mq kg.2.1.1 | assumption) rfl ?_
      refine rk_iload_n dM_doStep_53 rfl ?_
      refine rk_aald rfl dM_doStep_54 (by first | exact e1 | exact eg | exact epl | exact ena | exact k.ma | exact k.mg g.1 | exact k.mq kg.2.1.1 | assumption) (vp_in_nI (show m < 14 by omega) (by omega)) (v_nd (by omega) hqm) ?_
      refine rk_iload_n dM_doStep_55 rfl ?_
      refine rk_iload_n dM_doStep_56 rfl ?_
      refine rk_cv0 (c_M_hold a0 (ad m) M (nMi N fe m) (N m).ce t t _ _ k.ma (k.mn (kg.2.1.2 m hm).2) mv_ce (hac w p q f) hbc rfl htb htb) cM_96 dM_doStep_57 rfl lM_hold (Nat.le_of_ble_eq_true rfl) (Nat.le_of_ble_eq_true rfl) (Nat.le_of_ble_eq_true rfl) (Nat.le_of_ble_eq_true rfl) (by first | exact e1 | exact eg | exact epl | exact ena | exact k.ma | exact k.mg g.1 | exact k.mq kg.2.1.1 | assumption) ?_
      rw [mv_uce, hF]
      exact rk_ret rfl dM_doStep_60 ⟨(Nat.le_of_ble_eq_true rfl), (Nat.le_of_ble_eq_true rfl)⟩ (⟨rfl, _, _, _, rfl⟩)
    · exact absurd (show nI c < 0 by rw [q_17]; decide) (nI_pos (by omega))
/-- the machine's numbers after a run -/
def mW (M : mR) (ar rp rc : Int32) (rs : UInt64) : mR := (M.1, (ar, rp, rc, rs), M.2.2)
theorem c_M_perform (a0 gb : Nat) (M : mR) (A : gA) (X : gX) (n : Nat) (N : Nat → aN) (na : Nat → Option Nat) (ad fe S R : Nat → Nat) (PT : Nat → Option Nat) (out pk : Nat) (fd : Nat → Nat → Int32) (wt : Nat → Int32) (h : rk_H) (k : mOK h a0 M wt) (kg : gOK h gb A n N na ad fe) (g : gIs h gb A X) (hwf : wfN N n) (hS : sfK X.sf S n) (hSl : ∀ j : Nat, j < n → S j ≤ j) (hR : sfK X.st R n) (hR2 : ∀ j : Nat, R j ≤ 2) (hP : plR X.pl PT n) (hK : rnK N S R PT n) (hfd : fdK h N n fe fd) (ho : out < n) (hro : R (S out) = 2) :
    rk_Con mM_perform (6, 110, 0, 0) [.ref a0, .ref gb, .int (nI out)] h (fun r h' => ∃ (f0 : Nat → Int32) (w : wR) (p q : Int64 × Int32), r = .inl (some (.int (itr (fun i s => s + (itr (runS N wt S R PT fd) (S out + 1) 0 (stp 0 1792 (fun _ => 0) f0)) (plN PT (S out) + i)) (N (S out)).ce 0 0))) ∧ h' = rk_up (mv h M w p q (itr (runS N wt S R PT fd) (S out + 1) 0 (stp 0 1792 (fun _ => 0) f0))) a0 (oB 1 (mW M X.pk (nI (plN PT (S out))) (nI (N (S out)).ce) (N (S out)).sc).ls)) := by
  have hn := kg.n14
  have hso := hSl out ho
  have hon : S out < n := by omega
  obtain ⟨w0, p0, q0, f0, h0⟩ := k.eq
  obtain ⟨⟨t, ht, htb⟩, -, -⟩ := hK (S out) hon hro
  have epn : plN PT (S out) = t := by unfold plN; rw [ht]; rfl
  have hpm : X.pl (S out) = nI t := by rw [hP (S out) hon, ht]; rfl
  have hqo := (kg.2.1.2 (S out) hon).1
  have hna : a0 ≠ M.ce := rk_neq (k.ma (w := w0) (p := p0) (q := q0) (f := f0)) mv_ce (by intro q; cases q)
  have hga : gb ≠ a0 := rk_neq g.1 k.1.1 (by intro q; cases q)
  have hpa : A.pl ≠ a0 := rk_neq g.2.2.2.2.1 k.1.1 (by intro q; cases q)
  have hnaa : A.na ≠ a0 := rk_neq kg.2.1.1 k.1.1 (by intro q; cases q)
  have hoa : ad (S out) ≠ a0 := rk_neq (kg.2.1.2 (S out) hon).2 k.1.1 (by intro q; cases q)
  have loop : ∀ (k1 i : Nat) (f : Nat → Int32) (w : wR) (p q : Int64 × Int32), i + k1 = S out + 1 → rk_Run mM_perform (6, 110, 0, 0) (fun r h' => ∃ (w : wR) (p q : Int64 × Int32), r = .inl (some (.int (itr (fun z s => s + (itr (runS N wt S R PT fd) k1 i f) (plN PT (S out) + z)) (N (S out)).ce 0 0))) ∧ h' = rk_up (mv h M w p q (itr (runS N wt S R PT fd) k1 i f)) a0 (oB 1 (mW M X.pk (nI (plN PT (S out))) (nI (N (S out)).ce) (N (S out)).sc).ls)) 17 [some (.ref a0), some (.ref gb), some (.int (nI out)), some (.int (nI (S out))), some (.int (nI i))] [] (mv h M w p q f) (0, 0) := by
    intro k1
    induction k1 with
    | zero =>
      intro i f w p q hi
      rw [epn]
      refine rk_iload dM_perform_17 rfl ?_
      refine rk_iload_n dM_perform_19 rfl ?_
      refine rk_icmp_gt 47 dM_perform_20 (by decide) (fun q_20 => ?_) (fun q_20 => ?_)
      · refine rk_aload_n dM_perform_47 rfl ?_
        refine rk_aload_n dM_perform_48 rfl ?_
        refine rk_getf fM_54 dM_perform_49 (by first | exact k.ma | exact k.mg g.1 | exact k.mi g.2.2.2.2.1 (by decide) | exact k.mq kg.2.1.1 | exact k.mn (kg.2.1.2 (S out) hon).2 | assumption | (simp only [rk_up_s, rk_up_n hga, rk_up_n hpa, rk_up_n hnaa, rk_up_n hoa]; first | exact k.ma | exact k.mg g.1 | exact k.mi g.2.2.2.2.1 (by decide) | exact k.mq kg.2.1.1 | exact k.mn (kg.2.1.2 (S out) hon).2 | rfl)) rfl ?_
        refine rk_putf pM_58 dM_perform_52 (by first | exact k.ma | exact k.mg g.1 | exact k.mi g.2.2.2.2.1 (by decide) | exact k.mq kg.2.1.1 | exact k.mn (kg.2.1.2 (S out) hon).2 | assumption | (simp only [rk_up_s, rk_up_n hga, rk_up_n hpa, rk_up_n hnaa, rk_up_n hoa]; first | exact k.ma | exact k.mg g.1 | exact k.mi g.2.2.2.2.1 (by decide) | exact k.mq kg.2.1.1 | exact k.mn (kg.2.1.2 (S out) hon).2 | rfl)) (Nat.le_of_ble_eq_true rfl) rfl rfl ?_
        refine rk_aload_n dM_perform_55 rfl ?_
        refine rk_aload_n dM_perform_56 rfl ?_
        refine rk_getf fM_61 dM_perform_57 (by first | exact k.ma | exact k.mg g.1 | exact k.mi g.2.2.2.2.1 (by decide) | exact k.mq kg.2.1.1 | exact k.mn (kg.2.1.2 (S out) hon).2 | assumption | (simp only [rk_up_s, rk_up_n hga, rk_up_n hpa, rk_up_n hnaa, rk_up_n hoa]; first | exact k.ma | exact k.mg g.1 | exact k.mi g.2.2.2.2.1 (by decide) | exact k.mq kg.2.1.1 | exact k.mn (kg.2.1.2 (S out) hon).2 | rfl)) rfl ?_
        refine rk_iload_n dM_perform_60 rfl ?_
        refine rk_iald dM_perform_61 (by first | exact k.ma | exact k.mg g.1 | exact k.mi g.2.2.2.2.1 (by decide) | exact k.mq kg.2.1.1 | exact k.mn (kg.2.1.2 (S out) hon).2 | assumption | (simp only [rk_up_s, rk_up_n hga, rk_up_n hpa, rk_up_n hnaa, rk_up_n hoa]; first | exact k.ma | exact k.mg g.1 | exact k.mi g.2.2.2.2.1 (by decide) | exact k.mq kg.2.1.1 | exact k.mn (kg.2.1.2 (S out) hon).2 | rfl)) (vp_in_nI (show S out < 14 by omega) (by omega)) ?_
        rw [nI_clamp (show S out < 2 ^ 31 by omega), hpm]
        refine rk_putf pM_64 dM_perform_62 (by first | exact k.ma | exact k.mg g.1 | exact k.mi g.2.2.2.2.1 (by decide) | exact k.mq kg.2.1.1 | exact k.mn (kg.2.1.2 (S out) hon).2 | assumption | (simp only [rk_up_s, rk_up_n hga, rk_up_n hpa, rk_up_n hnaa, rk_up_n hoa]; first | exact k.ma | exact k.mg g.1 | exact k.mi g.2.2.2.2.1 (by decide) | exact k.mq kg.2.1.1 | exact k.mn (kg.2.1.2 (S out) hon).2 | rfl)) (Nat.le_of_ble_eq_true rfl) rfl rfl ?_
        refine rk_aload_n dM_perform_65 rfl ?_
        refine rk_aload_n dM_perform_66 rfl ?_
        refine rk_getf fM_67 dM_perform_67 (by first | exact k.ma | exact k.mg g.1 | exact k.mi g.2.2.2.2.1 (by decide) | exact k.mq kg.2.1.1 | exact k.mn (kg.2.1.2 (S out) hon).2 | assumption | (simp only [rk_up_s, rk_up_n hga, rk_up_n hpa, rk_up_n hnaa, rk_up_n hoa]; first | exact k.ma | exact k.mg g.1 | exact k.mi g.2.2.2.2.1 (by decide) | exact k.mq kg.2.1.1 | exact k.mn (kg.2.1.2 (S out) hon).2 | rfl)) rfl ?_
        refine rk_iload_n dM_perform_70 rfl ?_
        refine rk_aald rfl dM_perform_71 (by first | exact k.ma | exact k.mg g.1 | exact k.mi g.2.2.2.2.1 (by decide) | exact k.mq kg.2.1.1 | exact k.mn (kg.2.1.2 (S out) hon).2 | assumption | (simp only [rk_up_s, rk_up_n hga, rk_up_n hpa, rk_up_n hnaa, rk_up_n hoa]; first | exact k.ma | exact k.mg g.1 | exact k.mi g.2.2.2.2.1 (by decide) | exact k.mq kg.2.1.1 | exact k.mn (kg.2.1.2 (S out) hon).2 | rfl)) (vp_in_nI (show S out < 14 by omega) (by omega)) (v_nd (by omega) hqo) ?_
        refine rk_getf fM_71 dM_perform_72 (by first | exact k.ma | exact k.mg g.1 | exact k.mi g.2.2.2.2.1 (by decide) | exact k.mq kg.2.1.1 | exact k.mn (kg.2.1.2 (S out) hon).2 | assumption | (simp only [rk_up_s, rk_up_n hga, rk_up_n hpa, rk_up_n hnaa, rk_up_n hoa]; first | exact k.ma | exact k.mg g.1 | exact k.mi g.2.2.2.2.1 (by decide) | exact k.mq kg.2.1.1 | exact k.mn (kg.2.1.2 (S out) hon).2 | rfl)) rfl ?_
        refine rk_putf pM_75 dM_perform_75 (by first | exact k.ma | exact k.mg g.1 | exact k.mi g.2.2.2.2.1 (by decide) | exact k.mq kg.2.1.1 | exact k.mn (kg.2.1.2 (S out) hon).2 | assumption | (simp only [rk_up_s, rk_up_n hga, rk_up_n hpa, rk_up_n hnaa, rk_up_n hoa]; first | exact k.ma | exact k.mg g.1 | exact k.mi g.2.2.2.2.1 (by decide) | exact k.mq kg.2.1.1 | exact k.mn (kg.2.1.2 (S out) hon).2 | rfl)) (Nat.le_of_ble_eq_true rfl) rfl rfl ?_
        refine rk_aload_n dM_perform_78 rfl ?_
        refine rk_aload_n dM_perform_79 rfl ?_
        refine rk_getf fM_67 dM_perform_80 (by first | exact k.ma | exact k.mg g.1 | exact k.mi g.2.2.2.2.1 (by decide) | exact k.mq kg.2.1.1 | exact k.mn (kg.2.1.2 (S out) hon).2 | assumption | (simp only [rk_up_s, rk_up_n hga, rk_up_n hpa, rk_up_n hnaa, rk_up_n hoa]; first | exact k.ma | exact k.mg g.1 | exact k.mi g.2.2.2.2.1 (by decide) | exact k.mq kg.2.1.1 | exact k.mn (kg.2.1.2 (S out) hon).2 | rfl)) rfl ?_
        refine rk_iload_n dM_perform_83 rfl ?_
        refine rk_aald rfl dM_perform_84 (by first | exact k.ma | exact k.mg g.1 | exact k.mi g.2.2.2.2.1 (by decide) | exact k.mq kg.2.1.1 | exact k.mn (kg.2.1.2 (S out) hon).2 | assumption | (simp only [rk_up_s, rk_up_n hga, rk_up_n hpa, rk_up_n hnaa, rk_up_n hoa]; first | exact k.ma | exact k.mg g.1 | exact k.mi g.2.2.2.2.1 (by decide) | exact k.mq kg.2.1.1 | exact k.mn (kg.2.1.2 (S out) hon).2 | rfl)) (vp_in_nI (show S out < 14 by omega) (by omega)) (v_nd (by omega) hqo) ?_
        refine rk_getf fM_78 dM_perform_85 (by first | exact k.ma | exact k.mg g.1 | exact k.mi g.2.2.2.2.1 (by decide) | exact k.mq kg.2.1.1 | exact k.mn (kg.2.1.2 (S out) hon).2 | assumption | (simp only [rk_up_s, rk_up_n hga, rk_up_n hpa, rk_up_n hnaa, rk_up_n hoa]; first | exact k.ma | exact k.mg g.1 | exact k.mi g.2.2.2.2.1 (by decide) | exact k.mq kg.2.1.1 | exact k.mn (kg.2.1.2 (S out) hon).2 | rfl)) rfl ?_
        refine rk_putf pM_82 dM_perform_88 (by first | exact k.ma | exact k.mg g.1 | exact k.mi g.2.2.2.2.1 (by decide) | exact k.mq kg.2.1.1 | exact k.mn (kg.2.1.2 (S out) hon).2 | assumption | (simp only [rk_up_s, rk_up_n hga, rk_up_n hpa, rk_up_n hnaa, rk_up_n hoa]; first | exact k.ma | exact k.mg g.1 | exact k.mi g.2.2.2.2.1 (by decide) | exact k.mq kg.2.1.1 | exact k.mn (kg.2.1.2 (S out) hon).2 | rfl)) (Nat.le_of_ble_eq_true rfl) rfl rfl ?_
        rw [rk_up_up, rk_up_up, rk_up_up]
        refine rk_aload_n dM_perform_91 rfl ?_
        refine rk_cvV (c_M_sumOfResult a0 (mW M X.pk (nI t) (nI (N (S out)).ce) (N (S out)).sc) (N (S out)).ce t f _ rk_up_s (rk_up_k (Ne.symm hna) mv_ce) rfl rfl htb) cM_85 dM_perform_92 rfl lM_sumOfResult (Nat.le_of_ble_eq_true rfl) (Nat.le_of_ble_eq_true rfl) (Nat.le_of_ble_eq_true rfl) (Nat.le_of_ble_eq_true rfl) (by first | exact k.ma | exact k.mg g.1 | exact k.mi g.2.2.2.2.1 (by decide) | exact k.mq kg.2.1.1 | exact k.mn (kg.2.1.2 (S out) hon).2 | assumption | (simp only [rk_up_s, rk_up_n hga, rk_up_n hpa, rk_up_n hnaa, rk_up_n hoa]; first | exact k.ma | exact k.mg g.1 | exact k.mi g.2.2.2.2.1 (by decide) | exact k.mq kg.2.1.1 | exact k.mn (kg.2.1.2 (S out) hon).2 | rfl)) ?_
        exact rk_iret rfl dM_perform_95 ⟨(Nat.le_of_ble_eq_true rfl), (Nat.le_of_ble_eq_true rfl)⟩ (⟨w, p, q, rfl, rfl⟩)
      · exact absurd (nI_lt (show S out < i by omega) (by omega)) q_20
    | succ k1 ih =>
      intro i f w p q hi
      have hin' : i < n := by omega
      have hfi := hR i hin'
      have e2 : nI (R i) = 2 ↔ R i = 2 := nI2 (v := 2) (hR2 i) (by omega)
      have es : itr (runS N wt S R PT fd) (k1 + 1) i f = itr (runS N wt S R PT fd) k1 (i + 1) (runS N wt S R PT fd i f) := rfl
      rw [es]
      by_cases hr : R i = 2
      · refine rk_iload dM_perform_17 rfl ?_
        refine rk_iload_n dM_perform_19 rfl ?_
        refine rk_icmp_gt 47 dM_perform_20 (by decide) (fun q_20 => ?_) (fun q_20 => ?_)
        · exact absurd q_20 (nI_nlt (show i ≤ S out by omega) (by omega))
        · refine rk_aload_n dM_perform_23 rfl ?_
          refine rk_getf fM_47 dM_perform_24 (by first | exact k.ma | exact k.mg g.1 | exact k.mi g.2.2.1 (by decide) | assumption) rfl ?_
          refine rk_iload dM_perform_27 rfl ?_
          refine rk_iald dM_perform_29 (by first | exact k.ma | exact k.mg g.1 | exact k.mi g.2.2.1 (by decide) | assumption) (vp_in_nI (show i < 14 by omega) (by omega)) ?_
          rw [nI_clamp (show i < 2 ^ 31 by omega), hfi]
          refine rk_iconst (v := 2) dM_perform_30 (by decide) ?_
          refine rk_icmp_ne 41 dM_perform_31 (by decide) (fun q_31 => ?_) (fun q_31 => ?_)
          · exact absurd (e2.mpr hr) q_31
          · refine rk_aload_n dM_perform_34 rfl ?_
            refine rk_aload_n dM_perform_35 rfl ?_
            refine rk_iload dM_perform_36 rfl ?_
            refine rk_cvG (c_M_doStep a0 gb M A X n N na ad fe S R PT i fd f wt h w p q k kg g hwf hS hSl hR hR2 hP hK hfd hin' hr) cM_50 dM_perform_38 rfl lM_doStep (Nat.le_of_ble_eq_true rfl) (Nat.le_of_ble_eq_true rfl) (Nat.le_of_ble_eq_true rfl) (Nat.le_of_ble_eq_true rfl) (by first | exact k.ma | exact k.mg g.1 | exact k.mi g.2.2.1 (by decide) | assumption) ?_
            rintro r_38 h_38 ⟨rfl, w1, p1, q1, rfl⟩
            refine rk_nx0 ?_
            refine rk_iinc dM_perform_41 rfl (inc1 i) (Nat.le_of_ble_eq_true rfl) ?_
            refine rk_goto 17 dM_perform_44 (by decide) ?_
            exact ih (i + 1) _ w1 p1 q1 (by omega)
      · rw [show runS N wt S R PT fd i f = f by unfold runS; rw [if_neg hr]]
        refine rk_iload dM_perform_17 rfl ?_
        refine rk_iload_n dM_perform_19 rfl ?_
        refine rk_icmp_gt 47 dM_perform_20 (by decide) (fun q_20 => ?_) (fun q_20 => ?_)
        · exact absurd q_20 (nI_nlt (show i ≤ S out by omega) (by omega))
        · refine rk_aload_n dM_perform_23 rfl ?_
          refine rk_getf fM_47 dM_perform_24 (by first | exact k.ma | exact k.mg g.1 | exact k.mi g.2.2.1 (by decide) | assumption) rfl ?_
          refine rk_iload dM_perform_27 rfl ?_
          refine rk_iald dM_perform_29 (by first | exact k.ma | exact k.mg g.1 | exact k.mi g.2.2.1 (by decide) | assumption) (vp_in_nI (show i < 14 by omega) (by omega)) ?_
          rw [nI_clamp (show i < 2 ^ 31 by omega), hfi]
          refine rk_iconst (v := 2) dM_perform_30 (by decide) ?_
          refine rk_icmp_ne 41 dM_perform_31 (by decide) (fun q_31 => ?_) (fun q_31 => ?_)
          · refine rk_iinc dM_perform_41 rfl (inc1 i) (Nat.le_of_ble_eq_true rfl) ?_
            refine rk_goto 17 dM_perform_44 (by decide) ?_
            exact ih (i + 1) _ w p q (by omega)
          · exact absurd (e2.mp q_31) hr
  have hfill : itf (fun _ _ => 0) 0 1792 f0 = stp 0 1792 (fun _ => 0) f0 := itf_stp (fun _ _ _ _ => rfl)
  have cf := c_J_fill M.ce 1792 f0 0 (mv h M w0 p0 q0 f0) mv_ce (by omega)
  rw [mv_uce, hfill, ← h0] at cf
  refine rk_Con.of [some (.ref a0), some (.ref gb), some (.int (nI out)), none, none] rfl (Nat.le_of_ble_eq_true rfl) (by decide +kernel) ?_
  refine rk_aload_n dM_perform_0 rfl ?_
  refine rk_getf fM_15 dM_perform_1 (by first | exact k.1.1 | exact k.ma | exact k.mg g.1 | assumption) rfl ?_
  refine rk_iconst (v := 0) dM_perform_4 (by decide) ?_
  refine rk_cs0 (cf) cM_35 dM_perform_5 rfl lJ_fill (Nat.le_of_ble_eq_true rfl) (Nat.le_of_ble_eq_true rfl) (Nat.le_of_ble_eq_true rfl) (Nat.le_of_ble_eq_true rfl) ?_
  refine rk_aload_n dM_perform_8 rfl ?_
  refine rk_iload_n dM_perform_9 rfl ?_
  refine rk_cvV (c_G_meant gb A X (some out) _ (k.mg g.1) (k.mi g.2.1 (by decide)) (fun a ha => by cases ha; omega)) cM_41 dM_perform_10 rfl lG_meant (Nat.le_of_ble_eq_true rfl) (Nat.le_of_ble_eq_true rfl) (Nat.le_of_ble_eq_true rfl) (Nat.le_of_ble_eq_true rfl) (by first | exact k.1.1 | exact k.ma | exact k.mg g.1 | assumption) ?_
  rw [show mnt X.sf (some out) = nI (S out) from hS out ho]
  refine rk_istore_n dM_perform_13 (Nat.le_of_ble_eq_true rfl) ?_
  refine rk_iconst (v := 0) dM_perform_14 (by decide) ?_
  refine rk_istore dM_perform_15 (Nat.le_of_ble_eq_true rfl) ?_
  refine rk_mono ?_ (loop (S out + 1) 0 (stp 0 1792 (fun _ => 0) f0) w0 p0 q0 (by omega))
  rintro r h' ⟨w, p, q, z1, z2⟩
  exact ⟨f0, w, p, q, z1, z2⟩
