/-! Graph: what a node stands for -/
theorem dec_nI {a b : Nat} (ha : a < 2 ^ 31) (hb : b < 2 ^ 31) : decide (nI a = nI b) = decide (a = b) := by
  rw [decide_eq_decide]; exact nI_eq ha hb
/-- the first i, of k from i on, with p; else where it ends -/
def fstA (p : Nat → Bool) : Nat → Nat → Nat
  | 0, i => i
  | k + 1, i => if p i = true then i else fstA p k (i + 1)
def shq (x y : aN) : Bool := decide (x.h = y.h) && decide (x.w = y.w) && decide (x.c = y.c)
def smq (x y : aN) : Bool := decide (x.kd = y.kd) && shq x y && decide (x.sc = y.sc) && decide (x.co = y.co) && decide (x.off = y.off) && decide (x.ws = y.ws) && decide (x.lo = y.lo) && decide (x.hi = y.hi)
def idle (N : Nat → aN) (S : Nat → Nat) (k : Nat) : Bool := match (N k).one with
  | none => false
  | some a => (decide ((N k).kd = 6) && shq (N k) (N (S a))) || (decide ((N k).kd = 9) && decide ((N k).lo = -128) && decide ((N k).hi = 127)) || (decide ((N k).kd = 10) && decide ((N k).sc = (N (S a)).sc))
def alk (N : Nat → aN) (S : Nat → Nat) (m k : Nat) : Bool := smq (N m) (N k) && decide ((N m).one.map S = (N k).one.map S) && decide ((N m).two.map S = (N k).two.map S)
def stOf (N : Nat → aN) (S : Nat → Nat) (k : Nat) : Nat := if idle N S k = true then (match (N k).one with | none => 0 | some a => S a) else if (N k).kd = 0 then k else fstA (fun m => decide (S m = m) && alk N S m k) k 0
/-- the numbers of a node are small -/
def bdI (x : aN) : Prop := (x.kd ≤ 10 ∧ x.h ≤ 4 ∧ x.w ≤ 4 ∧ x.c ≤ 8 ∧ x.co < 12 ∧ x.off ≤ 512) ∧ x.sc.toNat ≤ dTop ∧ x.ws.toNat ≤ dTop
def bdOK (N : Nat → aN) (n : Nat) : Prop := ∀ i : Nat, i < n → bdI (N i)
theorem bdI.ce {x : aN} (k : bdI x) : x.ce ≤ 128 := by
  obtain ⟨⟨-, h1, h2, h3, -⟩, -⟩ := k
  have a1 : x.h * x.w ≤ 4 * 4 := Nat.mul_le_mul h1 h2
  have a2 : x.h * x.w * x.c ≤ 4 * 4 * 8 := Nat.mul_le_mul a1 h3
  exact a2
theorem shq_n {x y : aN} (hx : bdI x) (hy : bdI y) : (decide (nI x.h = nI y.h) && decide (nI x.w = nI y.w) && decide (nI x.c = nI y.c)) = shq x y := by
  obtain ⟨⟨-, h1, h2, h3, -⟩, -⟩ := hx
  obtain ⟨⟨-, g1, g2, g3, -⟩, -⟩ := hy
  unfold shq
  rw [dec_nI (by omega) (by omega), dec_nI (by omega) (by omega), dec_nI (by omega) (by omega)]
theorem smq_n {x y : aN} (hx : bdI x) (hy : bdI y) (fe fe2 : Nat) (ra ro ra2 ro2 : UInt64) : n_same (nM x fe ra ro) (nM y fe2 ra2 ro2) = smq x y := by
  have e : n_same (nM x fe ra ro) (nM y fe2 ra2 ro2) = (decide (nI x.kd = nI y.kd) && (decide (nI x.h = nI y.h) && decide (nI x.w = nI y.w) && decide (nI x.c = nI y.c)) && d_eq x.sc y.sc && decide (nI x.co = nI y.co) && decide (nI x.off = nI y.off) && d_eq x.ws y.ws && decide (x.lo = y.lo) && decide (x.hi = y.hi)) := rfl
  rw [e, shq_n hx hy]
  obtain ⟨⟨h0, h1, h2, h3, h4, h5⟩, h6, h7⟩ := hx
  obtain ⟨⟨g0, g1, g2, g3, g4, g5⟩, g6, g7⟩ := hy
  unfold smq
  rw [dec_nI (by omega) (by omega), dec_nI (by omega) (by omega), dec_nI (by omega) (by omega), d_eq_iff h6 g6, d_eq_iff h7 g7]
theorem c_G_fusedInto (b : Nat) (A : gA) (n : Nat) (N : Nat → aN) (na : Nat → Option Nat) (ad fe : Nat → Nat) (S R : Nat → Nat) (i : Nat) (X : gX) (h : rk_H) (k : gOK h b A n N na ad fe) (hin : inOK N n) (hS : sfK X.sf S n) (hSl : ∀ j : Nat, j < n → S j ≤ j) (hR : sfK X.st R n) (hR2 : ∀ j : Nat, j < n → R j ≤ 2) (hi : i < n) :
    rk_Con mG_fusedInto (1, 13, 0, 0) [.ref b, .int (nI i)] (gv h b A X) (rk_Rv (.int (oI (((N i).one.map S).filter (fun a => decide (R a = 1))))) (gv h b A X)) := by
  have hn := k.n14
  have e1 : gv h b A X b = some (oB 0 (gls A X)) := k.gb
  have e2 : gv h b A X A.sf = some (iA 14 X.sf) := k.gsf
  have e3 : gv h b A X A.st = some (iA 14 X.st) := k.gst
  have e4 : gv h b A X A.na = some (qA 14 na) := k.gna
  have e5 : gv h b A X (ad i) = some (oB 2 (nLi N fe i)) := k.gnd hi
  have hq : na i = some (ad i) := (k.2.1.2 i hi).1
  have hm : mnt X.sf (N i).one = oI ((N i).one.map S) := mnt_S hS (fun a ha => by have := (hin i hi).1 a ha; omega)
  generalize gv h b A X = h' at e1 e2 e3 e4 e5 ⊢
  refine rk_Con.of [some (.ref b), some (.int (nI i)), none] rfl (Nat.le_of_ble_eq_true rfl) (by decide +kernel) ?_
  cases ho : (N i).one with
  | none =>
    rw [ho] at hm
    refine rk_aload_n dG_fusedInto_0 rfl ?_
    refine rk_aload_n dG_fusedInto_1 rfl ?_
    refine rk_getf fG_11 dG_fusedInto_2 (by first | exact e1 | exact e2 | exact e3 | exact e4 | exact e5 | assumption) rfl ?_
    refine rk_iload_n dG_fusedInto_5 rfl ?_
    refine rk_aald rfl dG_fusedInto_6 (by first | exact e1 | exact e2 | exact e3 | exact e4 | exact e5 | assumption) (vp_in_nI (show i < 14 by omega) (by omega)) (v_nd (by omega) hq) ?_
    refine rk_getf fG_56 dG_fusedInto_7 (by first | exact e1 | exact e2 | exact e3 | exact e4 | exact e5 | assumption) rfl ?_
    refine rk_cvV (c_G_meant b A X (N i).one _ e1 e2 (hin.o1 hn hi)) cG_59 dG_fusedInto_10 rfl lG_meant (Nat.le_of_ble_eq_true rfl) (Nat.le_of_ble_eq_true rfl) (Nat.le_of_ble_eq_true rfl) (Nat.le_of_ble_eq_true rfl) (by first | exact e1 | exact e2 | exact e3 | exact e4 | exact e5 | assumption) ?_
    rw [ho, hm]
    refine rk_istore_n dG_fusedInto_13 (Nat.le_of_ble_eq_true rfl) ?_
    refine rk_iload_n dG_fusedInto_14 rfl ?_
    refine rk_iconst (v := -1) dG_fusedInto_15 (by decide) ?_
    refine rk_icmp_eq 33 dG_fusedInto_16 (by decide) (fun q_16 => ?_) (fun q_16 => ?_)
    · refine rk_iconst (v := -1) dG_fusedInto_33 (by decide) ?_
      exact rk_iret rfl dG_fusedInto_34 ⟨(Nat.le_of_ble_eq_true rfl), (Nat.le_of_ble_eq_true rfl)⟩ (⟨rfl, rfl⟩)
    · exact absurd rfl q_16
  | some a =>
    have ha : a < i := (hin i hi).1 a ho
    have hsl := hSl a (by omega)
    rw [ho] at hm
    have hr := hR (S a) (by omega)
    have hr2 := hR2 (S a) (by omega)
    refine rk_aload_n dG_fusedInto_0 rfl ?_
    refine rk_aload_n dG_fusedInto_1 rfl ?_
    refine rk_getf fG_11 dG_fusedInto_2 (by first | exact e1 | exact e2 | exact e3 | exact e4 | exact e5 | assumption) rfl ?_
    refine rk_iload_n dG_fusedInto_5 rfl ?_
    refine rk_aald rfl dG_fusedInto_6 (by first | exact e1 | exact e2 | exact e3 | exact e4 | exact e5 | assumption) (vp_in_nI (show i < 14 by omega) (by omega)) (v_nd (by omega) hq) ?_
    refine rk_getf fG_56 dG_fusedInto_7 (by first | exact e1 | exact e2 | exact e3 | exact e4 | exact e5 | assumption) rfl ?_
    refine rk_cvV (c_G_meant b A X (N i).one _ e1 e2 (hin.o1 hn hi)) cG_59 dG_fusedInto_10 rfl lG_meant (Nat.le_of_ble_eq_true rfl) (Nat.le_of_ble_eq_true rfl) (Nat.le_of_ble_eq_true rfl) (Nat.le_of_ble_eq_true rfl) (by first | exact e1 | exact e2 | exact e3 | exact e4 | exact e5 | assumption) ?_
    rw [ho, hm, show oI ((some a).map S) = nI (S a) from rfl]
    refine rk_istore_n dG_fusedInto_13 (Nat.le_of_ble_eq_true rfl) ?_
    refine rk_iload_n dG_fusedInto_14 rfl ?_
    refine rk_iconst (v := -1) dG_fusedInto_15 (by decide) ?_
    refine rk_icmp_eq 33 dG_fusedInto_16 (by decide) (fun q_16 => ?_) (fun q_16 => ?_)
    · exact absurd (show nI (S a) < 0 by rw [q_16]; decide) (nI_pos (by omega))
    · refine rk_aload_n dG_fusedInto_19 rfl ?_
      refine rk_getf fG_21 dG_fusedInto_20 (by first | exact e1 | exact e2 | exact e3 | exact e4 | exact e5 | assumption) rfl ?_
      refine rk_iload_n dG_fusedInto_23 rfl ?_
      refine rk_iald dG_fusedInto_24 (by first | exact e1 | exact e2 | exact e3 | exact e4 | exact e5 | assumption) (vp_in_nI (show S a < 14 by omega) (by omega)) ?_
      rw [nI_clamp (show S a < 2 ^ 31 by omega), hr]
      refine rk_iconst (v := 1) dG_fusedInto_25 (by decide) ?_
      refine rk_icmp_ne 33 dG_fusedInto_26 (by decide) (fun q_26 => ?_) (fun q_26 => ?_)
      · refine rk_iconst (v := -1) dG_fusedInto_33 (by decide) ?_
        exact rk_iret rfl dG_fusedInto_34 ⟨(Nat.le_of_ble_eq_true rfl), (Nat.le_of_ble_eq_true rfl)⟩ (by simp only [rk_Rv, and_true]; rw [show (Option.map S (some a)) = some (S a) from rfl]; have e9 : nI (R (S a)) = 1 ↔ R (S a) = 1 := nI_eq (b := 1) (by omega) (by omega); simp_all [Option.filter, oI])
      · refine rk_iload_n dG_fusedInto_29 rfl ?_
        refine rk_goto 34 dG_fusedInto_30 (by decide) ?_
        exact rk_iret rfl dG_fusedInto_34 ⟨(Nat.le_of_ble_eq_true rfl), (Nat.le_of_ble_eq_true rfl)⟩ (by simp only [rk_Rv, and_true]; rw [show (Option.map S (some a)) = some (S a) from rfl]; have e9 : nI (R (S a)) = 1 ↔ R (S a) = 1 := nI_eq (b := 1) (by omega) (by omega); simp_all [Option.filter, oI])
theorem c_G_changesNothing (b : Nat) (A : gA) (n : Nat) (N : Nat → aN) (na : Nat → Option Nat) (ad fe : Nat → Nat) (S : Nat → Nat) (i : Nat) (X : gX) (h : rk_H) (k : gOK h b A n N na ad fe) (hin : inOK N n) (hbd : bdOK N n) (hi : i < n) (hS : sfK X.sf S i) (hSl : ∀ j : Nat, j < i → S j ≤ j) :
    rk_Con mG_changesNothing (1, 15, 0, 0) [.ref b, .ref (ad i)] (gv h b A X) (rk_Rv (.int (b2i (idle N S i))) (gv h b A X)) := by
  have hn := k.n14
  have e1 : gv h b A X b = some (oB 0 (gls A X)) := k.gb
  have e2 : gv h b A X A.sf = some (iA 14 X.sf) := k.gsf
  have e4 : gv h b A X A.na = some (qA 14 na) := k.gna
  have e5 : gv h b A X (ad i) = some (oB 2 (nLi N fe i)) := k.gnd hi
  have hb1 := hbd i hi
  refine rk_Con.of [some (.ref b), some (.ref (ad i)), none] rfl (Nat.le_of_ble_eq_true rfl) (by decide +kernel) ?_
  cases ho : (N i).one with
  | none =>
    generalize gv h b A X = h' at e1 e2 e4 e5 ⊢
    refine rk_aload_n dG_changesNothing_0 rfl ?_
    refine rk_getf fG_56 dG_changesNothing_1 (by first | exact e1 | exact e2 | exact e4 | exact e5 | assumption) rfl ?_
    rw [ho]
    refine rk_iconst (v := -1) dG_changesNothing_4 (by decide) ?_
    refine rk_icmp_ne 10 dG_changesNothing_5 (by decide) (fun q_5 => ?_) (fun q_5 => ?_)
    · exact absurd rfl q_5
    · refine rk_iconst (v := 0) dG_changesNothing_8 (by decide) ?_
      exact rk_zret rfl rfl dG_changesNothing_9 ⟨(Nat.le_of_ble_eq_true rfl), (Nat.le_of_ble_eq_true rfl)⟩ (⟨by unfold idle; rw [ho]; rfl, rfl⟩)
  | some a =>
    have ha : a < i := (hin i hi).1 a ho
    have hsl := hSl a ha
    have e6 : gv h b A X (ad (S a)) = some (oB 2 (nLi N fe (S a))) := k.gnd (by omega)
    have hb2 := hbd (S a) (by omega)
    have hq : na (S a) = some (ad (S a)) := (k.2.1.2 (S a) (by omega)).1
    have hsa : X.sf a = nI (S a) := hS a ha
    have hne : ¬ nI a = -1 := fun z => nI_pos (show a < 2 ^ 31 by omega) (by rw [z]; decide)
    generalize gv h b A X = h' at e1 e2 e4 e5 e6 ⊢
    have hkd : (N i).kd < 6 ∨ (N i).kd = 6 ∨ (N i).kd = 7 ∨ (N i).kd = 8 ∨ (N i).kd = 9 ∨ (N i).kd = 10 := by have := hb1.1.1; omega
    rcases hkd with hk | hk | hk | hk | hk | hk
    · refine rk_aload_n dG_changesNothing_0 rfl ?_
      refine rk_getf fG_56 dG_changesNothing_1 (by first | exact e1 | exact e2 | exact e4 | exact e5 | exact e6 | assumption) rfl ?_
      rw [ho, show oI (some a) = nI a from rfl]
      refine rk_iconst (v := -1) dG_changesNothing_4 (by decide) ?_
      refine rk_icmp_ne 10 dG_changesNothing_5 (by decide) (fun q_5 => ?_) (fun q_5 => ?_)
      · refine rk_aload_n dG_changesNothing_10 rfl ?_
        refine rk_getf fG_11 dG_changesNothing_11 (by first | exact e1 | exact e2 | exact e4 | exact e5 | exact e6 | assumption) rfl ?_
        refine rk_aload_n dG_changesNothing_14 rfl ?_
        refine rk_getf fG_17 dG_changesNothing_15 (by first | exact e1 | exact e2 | exact e4 | exact e5 | exact e6 | assumption) rfl ?_
        refine rk_aload_n dG_changesNothing_18 rfl ?_
        refine rk_getf fG_56 dG_changesNothing_19 (by first | exact e1 | exact e2 | exact e4 | exact e5 | exact e6 | assumption) rfl ?_
        rw [ho, show oI (some a) = nI a from rfl]
        refine rk_iald dG_changesNothing_22 (by first | exact e1 | exact e2 | exact e4 | exact e5 | exact e6 | assumption) (vp_in_nI (show a < 14 by omega) (by omega)) ?_
        rw [nI_clamp (show a < 2 ^ 31 by omega), hsa]
        refine rk_aald rfl dG_changesNothing_23 (by first | exact e1 | exact e2 | exact e4 | exact e5 | exact e6 | assumption) (vp_in_nI (show S a < 14 by omega) (by omega)) (v_nd (by omega) hq) ?_
        refine rk_astore_n dG_changesNothing_24 (Nat.le_of_ble_eq_true rfl) ?_
        refine rk_aload_n dG_changesNothing_25 rfl ?_
        refine rk_getf fG_70 dG_changesNothing_26 (by first | exact e1 | exact e2 | exact e4 | exact e5 | exact e6 | assumption) rfl ?_
        refine rk_tableOut 123 dG_changesNothing_29 (Or.inl (by rw [nI_toInt (by omega)]; omega)) (by decide) ?_
        refine rk_iconst (v := 0) dG_changesNothing_123 (by decide) ?_
        exact rk_zret rfl rfl dG_changesNothing_124 ⟨(Nat.le_of_ble_eq_true rfl), (Nat.le_of_ble_eq_true rfl)⟩ (⟨by unfold idle; rw [ho]; simp [show (N i).kd ≠ 6 by omega, show (N i).kd ≠ 9 by omega, show (N i).kd ≠ 10 by omega, b2i], rfl⟩)
      · exact absurd q_5 hne
    · refine rk_aload_n dG_changesNothing_0 rfl ?_
      refine rk_getf fG_56 dG_changesNothing_1 (by first | exact e1 | exact e2 | exact e4 | exact e5 | exact e6 | assumption) rfl ?_
      rw [ho, show oI (some a) = nI a from rfl]
      refine rk_iconst (v := -1) dG_changesNothing_4 (by decide) ?_
      refine rk_icmp_ne 10 dG_changesNothing_5 (by decide) (fun q_5 => ?_) (fun q_5 => ?_)
      · refine rk_aload_n dG_changesNothing_10 rfl ?_
        refine rk_getf fG_11 dG_changesNothing_11 (by first | exact e1 | exact e2 | exact e4 | exact e5 | exact e6 | assumption) rfl ?_
        refine rk_aload_n dG_changesNothing_14 rfl ?_
        refine rk_getf fG_17 dG_changesNothing_15 (by first | exact e1 | exact e2 | exact e4 | exact e5 | exact e6 | assumption) rfl ?_
        refine rk_aload_n dG_changesNothing_18 rfl ?_
        refine rk_getf fG_56 dG_changesNothing_19 (by first | exact e1 | exact e2 | exact e4 | exact e5 | exact e6 | assumption) rfl ?_
        rw [ho, show oI (some a) = nI a from rfl]
        refine rk_iald dG_changesNothing_22 (by first | exact e1 | exact e2 | exact e4 | exact e5 | exact e6 | assumption) (vp_in_nI (show a < 14 by omega) (by omega)) ?_
        rw [nI_clamp (show a < 2 ^ 31 by omega), hsa]
        refine rk_aald rfl dG_changesNothing_23 (by first | exact e1 | exact e2 | exact e4 | exact e5 | exact e6 | assumption) (vp_in_nI (show S a < 14 by omega) (by omega)) (v_nd (by omega) hq) ?_
        refine rk_astore_n dG_changesNothing_24 (Nat.le_of_ble_eq_true rfl) ?_
        refine rk_aload_n dG_changesNothing_25 rfl ?_
        refine rk_getf fG_70 dG_changesNothing_26 (by first | exact e1 | exact e2 | exact e4 | exact e5 | exact e6 | assumption) rfl ?_
        rw [hk]
        refine rk_tableIn (off := 35) 64 dG_changesNothing_29 (by decide) (by decide) (by decide) (by decide) ?_
        refine rk_aload_n dG_changesNothing_64 rfl ?_
        refine rk_aload_n dG_changesNothing_65 rfl ?_
        refine rk_getf fG_73 dG_changesNothing_66 (by first | exact e1 | exact e2 | exact e4 | exact e5 | exact e6 | assumption) rfl ?_
        refine rk_aload_n dG_changesNothing_69 rfl ?_
        refine rk_getf fG_76 dG_changesNothing_70 (by first | exact e1 | exact e2 | exact e4 | exact e5 | exact e6 | assumption) rfl ?_
        refine rk_aload_n dG_changesNothing_73 rfl ?_
        refine rk_getf fG_79 dG_changesNothing_74 (by first | exact e1 | exact e2 | exact e4 | exact e5 | exact e6 | assumption) rfl ?_
        refine rk_cvV (c_N_hasShape (ad i) (nMi N fe i) _ _ _ _ e5) cG_82 dG_changesNothing_77 rfl lN_hasShape (Nat.le_of_ble_eq_true rfl) (Nat.le_of_ble_eq_true rfl) (Nat.le_of_ble_eq_true rfl) (Nat.le_of_ble_eq_true rfl) (by first | exact e1 | exact e2 | exact e4 | exact e5 | exact e6 | assumption) ?_
        exact rk_zret rfl (b2i_nr _) dG_changesNothing_80 ⟨(Nat.le_of_ble_eq_true rfl), (Nat.le_of_ble_eq_true rfl)⟩ (⟨by rw [show (decide ((nMi N fe i).h = nI (N (S a)).h) && decide ((nMi N fe i).w = nI (N (S a)).w) && decide ((nMi N fe i).c = nI (N (S a)).c)) = shq (N i) (N (S a)) from shq_n hb1 hb2]; unfold idle; rw [ho]; simp [hk], rfl⟩)
      · exact absurd q_5 hne
    · refine rk_aload_n dG_changesNothing_0 rfl ?_
      refine rk_getf fG_56 dG_changesNothing_1 (by first | exact e1 | exact e2 | exact e4 | exact e5 | exact e6 | assumption) rfl ?_
      rw [ho, show oI (some a) = nI a from rfl]
      refine rk_iconst (v := -1) dG_changesNothing_4 (by decide) ?_
      refine rk_icmp_ne 10 dG_changesNothing_5 (by decide) (fun q_5 => ?_) (fun q_5 => ?_)
      · refine rk_aload_n dG_changesNothing_10 rfl ?_
        refine rk_getf fG_11 dG_changesNothing_11 (by first | exact e1 | exact e2 | exact e4 | exact e5 | exact e6 | assumption) rfl ?_
        refine rk_aload_n dG_changesNothing_14 rfl ?_
        refine rk_getf fG_17 dG_changesNothing_15 (by first | exact e1 | exact e2 | exact e4 | exact e5 | exact e6 | assumption) rfl ?_
        refine rk_aload_n dG_changesNothing_18 rfl ?_
        refine rk_getf fG_56 dG_changesNothing_19 (by first | exact e1 | exact e2 | exact e4 | exact e5 | exact e6 | assumption) rfl ?_
        rw [ho, show oI (some a) = nI a from rfl]
        refine rk_iald dG_changesNothing_22 (by first | exact e1 | exact e2 | exact e4 | exact e5 | exact e6 | assumption) (vp_in_nI (show a < 14 by omega) (by omega)) ?_
        rw [nI_clamp (show a < 2 ^ 31 by omega), hsa]
        refine rk_aald rfl dG_changesNothing_23 (by first | exact e1 | exact e2 | exact e4 | exact e5 | exact e6 | assumption) (vp_in_nI (show S a < 14 by omega) (by omega)) (v_nd (by omega) hq) ?_
        refine rk_astore_n dG_changesNothing_24 (Nat.le_of_ble_eq_true rfl) ?_
        refine rk_aload_n dG_changesNothing_25 rfl ?_
        refine rk_getf fG_70 dG_changesNothing_26 (by first | exact e1 | exact e2 | exact e4 | exact e5 | exact e6 | assumption) rfl ?_
        rw [hk]
        refine rk_tableIn (off := 94) 123 dG_changesNothing_29 (by decide) (by decide) (by decide) (by decide) ?_
        refine rk_iconst (v := 0) dG_changesNothing_123 (by decide) ?_
        exact rk_zret rfl rfl dG_changesNothing_124 ⟨(Nat.le_of_ble_eq_true rfl), (Nat.le_of_ble_eq_true rfl)⟩ (⟨by unfold idle; rw [ho]; simp [hk, b2i], rfl⟩)
      · exact absurd q_5 hne
    · refine rk_aload_n dG_changesNothing_0 rfl ?_
      refine rk_getf fG_56 dG_changesNothing_1 (by first | exact e1 | exact e2 | exact e4 | exact e5 | exact e6 | assumption) rfl ?_
      rw [ho, show oI (some a) = nI a from rfl]
      refine rk_iconst (v := -1) dG_changesNothing_4 (by decide) ?_
      refine rk_icmp_ne 10 dG_changesNothing_5 (by decide) (fun q_5 => ?_) (fun q_5 => ?_)
      · refine rk_aload_n dG_changesNothing_10 rfl ?_
        refine rk_getf fG_11 dG_changesNothing_11 (by first | exact e1 | exact e2 | exact e4 | exact e5 | exact e6 | assumption) rfl ?_
        refine rk_aload_n dG_changesNothing_14 rfl ?_
        refine rk_getf fG_17 dG_changesNothing_15 (by first | exact e1 | exact e2 | exact e4 | exact e5 | exact e6 | assumption) rfl ?_
        refine rk_aload_n dG_changesNothing_18 rfl ?_
        refine rk_getf fG_56 dG_changesNothing_19 (by first | exact e1 | exact e2 | exact e4 | exact e5 | exact e6 | assumption) rfl ?_
        rw [ho, show oI (some a) = nI a from rfl]
        refine rk_iald dG_changesNothing_22 (by first | exact e1 | exact e2 | exact e4 | exact e5 | exact e6 | assumption) (vp_in_nI (show a < 14 by omega) (by omega)) ?_
        rw [nI_clamp (show a < 2 ^ 31 by omega), hsa]
        refine rk_aald rfl dG_changesNothing_23 (by first | exact e1 | exact e2 | exact e4 | exact e5 | exact e6 | assumption) (vp_in_nI (show S a < 14 by omega) (by omega)) (v_nd (by omega) hq) ?_
        refine rk_astore_n dG_changesNothing_24 (Nat.le_of_ble_eq_true rfl) ?_
        refine rk_aload_n dG_changesNothing_25 rfl ?_
        refine rk_getf fG_70 dG_changesNothing_26 (by first | exact e1 | exact e2 | exact e4 | exact e5 | exact e6 | assumption) rfl ?_
        rw [hk]
        refine rk_tableIn (off := 94) 123 dG_changesNothing_29 (by decide) (by decide) (by decide) (by decide) ?_
        refine rk_iconst (v := 0) dG_changesNothing_123 (by decide) ?_
        exact rk_zret rfl rfl dG_changesNothing_124 ⟨(Nat.le_of_ble_eq_true rfl), (Nat.le_of_ble_eq_true rfl)⟩ (⟨by unfold idle; rw [ho]; simp [hk, b2i], rfl⟩)
      · exact absurd q_5 hne
    · refine rk_aload_n dG_changesNothing_0 rfl ?_
      refine rk_getf fG_56 dG_changesNothing_1 (by first | exact e1 | exact e2 | exact e4 | exact e5 | exact e6 | assumption) rfl ?_
      rw [ho, show oI (some a) = nI a from rfl]
      refine rk_iconst (v := -1) dG_changesNothing_4 (by decide) ?_
      refine rk_icmp_ne 10 dG_changesNothing_5 (by decide) (fun q_5 => ?_) (fun q_5 => ?_)
      · refine rk_aload_n dG_changesNothing_10 rfl ?_
        refine rk_getf fG_11 dG_changesNothing_11 (by first | exact e1 | exact e2 | exact e4 | exact e5 | exact e6 | assumption) rfl ?_
        refine rk_aload_n dG_changesNothing_14 rfl ?_
        refine rk_getf fG_17 dG_changesNothing_15 (by first | exact e1 | exact e2 | exact e4 | exact e5 | exact e6 | assumption) rfl ?_
        refine rk_aload_n dG_changesNothing_18 rfl ?_
        refine rk_getf fG_56 dG_changesNothing_19 (by first | exact e1 | exact e2 | exact e4 | exact e5 | exact e6 | assumption) rfl ?_
        rw [ho, show oI (some a) = nI a from rfl]
        refine rk_iald dG_changesNothing_22 (by first | exact e1 | exact e2 | exact e4 | exact e5 | exact e6 | assumption) (vp_in_nI (show a < 14 by omega) (by omega)) ?_
        rw [nI_clamp (show a < 2 ^ 31 by omega), hsa]
        refine rk_aald rfl dG_changesNothing_23 (by first | exact e1 | exact e2 | exact e4 | exact e5 | exact e6 | assumption) (vp_in_nI (show S a < 14 by omega) (by omega)) (v_nd (by omega) hq) ?_
        refine rk_astore_n dG_changesNothing_24 (Nat.le_of_ble_eq_true rfl) ?_
        refine rk_aload_n dG_changesNothing_25 rfl ?_
        refine rk_getf fG_70 dG_changesNothing_26 (by first | exact e1 | exact e2 | exact e4 | exact e5 | exact e6 | assumption) rfl ?_
        rw [hk]
        refine rk_tableIn (off := 52) 81 dG_changesNothing_29 (by decide) (by decide) (by decide) (by decide) ?_
        refine rk_aload_n dG_changesNothing_81 rfl ?_
        refine rk_getf fG_86 dG_changesNothing_82 (by first | exact e1 | exact e2 | exact e4 | exact e5 | exact e6 | assumption) rfl ?_
        refine rk_bipush (v := -128) dG_changesNothing_85 (by decide) ?_
        refine rk_icmp_ne 103 dG_changesNothing_87 (by decide) (fun q_87 => ?_) (fun q_87 => ?_)
        · refine rk_iconst (v := 0) dG_changesNothing_103 (by decide) ?_
          exact rk_zret rfl rfl dG_changesNothing_104 ⟨(Nat.le_of_ble_eq_true rfl), (Nat.le_of_ble_eq_true rfl)⟩ (⟨by unfold idle; rw [ho]; simp_all [b2i], rfl⟩)
        · refine rk_aload_n dG_changesNothing_90 rfl ?_
          refine rk_getf fG_89 dG_changesNothing_91 (by first | exact e1 | exact e2 | exact e4 | exact e5 | exact e6 | assumption) rfl ?_
          refine rk_bipush (v := 127) dG_changesNothing_94 (by decide) ?_
          refine rk_icmp_ne 103 dG_changesNothing_96 (by decide) (fun q_96 => ?_) (fun q_96 => ?_)
          · refine rk_iconst (v := 0) dG_changesNothing_103 (by decide) ?_
            exact rk_zret rfl rfl dG_changesNothing_104 ⟨(Nat.le_of_ble_eq_true rfl), (Nat.le_of_ble_eq_true rfl)⟩ (⟨by unfold idle; rw [ho]; simp_all [b2i], rfl⟩)
          · refine rk_iconst (v := 1) dG_changesNothing_99 (by decide) ?_
            refine rk_goto 104 dG_changesNothing_100 (by decide) ?_
            exact rk_zret rfl rfl dG_changesNothing_104 ⟨(Nat.le_of_ble_eq_true rfl), (Nat.le_of_ble_eq_true rfl)⟩ (⟨by unfold idle; rw [ho]; simp_all [b2i], rfl⟩)
      · exact absurd q_5 hne
    · refine rk_aload_n dG_changesNothing_0 rfl ?_
      refine rk_getf fG_56 dG_changesNothing_1 (by first | exact e1 | exact e2 | exact e4 | exact e5 | exact e6 | assumption) rfl ?_
      rw [ho, show oI (some a) = nI a from rfl]
      refine rk_iconst (v := -1) dG_changesNothing_4 (by decide) ?_
      refine rk_icmp_ne 10 dG_changesNothing_5 (by decide) (fun q_5 => ?_) (fun q_5 => ?_)
      · refine rk_aload_n dG_changesNothing_10 rfl ?_
        refine rk_getf fG_11 dG_changesNothing_11 (by first | exact e1 | exact e2 | exact e4 | exact e5 | exact e6 | assumption) rfl ?_
        refine rk_aload_n dG_changesNothing_14 rfl ?_
        refine rk_getf fG_17 dG_changesNothing_15 (by first | exact e1 | exact e2 | exact e4 | exact e5 | exact e6 | assumption) rfl ?_
        refine rk_aload_n dG_changesNothing_18 rfl ?_
        refine rk_getf fG_56 dG_changesNothing_19 (by first | exact e1 | exact e2 | exact e4 | exact e5 | exact e6 | assumption) rfl ?_
        rw [ho, show oI (some a) = nI a from rfl]
        refine rk_iald dG_changesNothing_22 (by first | exact e1 | exact e2 | exact e4 | exact e5 | exact e6 | assumption) (vp_in_nI (show a < 14 by omega) (by omega)) ?_
        rw [nI_clamp (show a < 2 ^ 31 by omega), hsa]
        refine rk_aald rfl dG_changesNothing_23 (by first | exact e1 | exact e2 | exact e4 | exact e5 | exact e6 | assumption) (vp_in_nI (show S a < 14 by omega) (by omega)) (v_nd (by omega) hq) ?_
        refine rk_astore_n dG_changesNothing_24 (Nat.le_of_ble_eq_true rfl) ?_
        refine rk_aload_n dG_changesNothing_25 rfl ?_
        refine rk_getf fG_70 dG_changesNothing_26 (by first | exact e1 | exact e2 | exact e4 | exact e5 | exact e6 | assumption) rfl ?_
        rw [hk]
        refine rk_tableIn (off := 76) 105 dG_changesNothing_29 (by decide) (by decide) (by decide) (by decide) ?_
        refine rk_aload_n dG_changesNothing_105 rfl ?_
        refine rk_getf fG_92 dG_changesNothing_106 (by first | exact e1 | exact e2 | exact e4 | exact e5 | exact e6 | assumption) rfl ?_
        refine rk_aload_n dG_changesNothing_109 rfl ?_
        refine rk_getf fG_92 dG_changesNothing_110 (by first | exact e1 | exact e2 | exact e4 | exact e5 | exact e6 | assumption) rfl ?_
        refine rk_dcmp dG_changesNothing_113 ?_
        refine rk_if_ne 121 dG_changesNothing_114 (by decide) (fun q_114 => ?_) (fun q_114 => ?_)
        · refine rk_iconst (v := 0) dG_changesNothing_121 (by decide) ?_
          exact rk_zret rfl rfl dG_changesNothing_122 ⟨(Nat.le_of_ble_eq_true rfl), (Nat.le_of_ble_eq_true rfl)⟩ (⟨by have e9 := d_eq_iff hb1.2.1 hb2.2.1; unfold d_eq at e9; rw [decide_eq_decide] at e9; rw [e9] at q_114; unfold idle; rw [ho]; simp [hk, q_114, b2i], rfl⟩)
        · refine rk_iconst (v := 1) dG_changesNothing_117 (by decide) ?_
          refine rk_goto 122 dG_changesNothing_118 (by decide) ?_
          exact rk_zret rfl rfl dG_changesNothing_122 ⟨(Nat.le_of_ble_eq_true rfl), (Nat.le_of_ble_eq_true rfl)⟩ (⟨by have e9 := d_eq_iff hb1.2.1 hb2.2.1; unfold d_eq at e9; rw [decide_eq_decide] at e9; rw [e9] at q_114; unfold idle; rw [ho]; simp [hk, q_114, b2i], rfl⟩)
      · exact absurd q_5 hne
