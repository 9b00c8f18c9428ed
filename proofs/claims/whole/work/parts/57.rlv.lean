/-! the reference: lives -/
def hI (N : Nat → aN) (S R : Nat → Nat) (m i : Nat) : Bool := decide ((N m).one.map S = some i) || decide ((N m).two.map S = some i) || (match (N m).one.map S with
  | none => false
  | some a => decide (R a = 1) && decide ((N a).one.map S = some i))
theorem c_R_hasInput (b : rk_H) (A : Nat → Nat) (X : rX) (k : rA A) (S R : Nat → Nat) (m i : Nat) (hn : X.no ≤ 14) (hm : m < X.no) (hi : i < X.no) (hin : inOK X.N X.no) (hS : sfK X.st S X.no) (hSl : ∀ j : Nat, j < X.no → S j ≤ j) (hR : sfK X.ro R X.no) (h2 : ∀ j, R j ≤ 2) : rk_Con mR_hasInput (1, 13, 0, 0) [.ref (A 0), .int (nI m), .int (nI i)] (rv b A X) (rk_Rv (.int (b2i (hI X.N S R m i))) (rv b A X)) := by
  have o1 := (hin m hm).1
  have o2 := (hin m hm).2
  have o1' : ∀ a, (X.N m).one = some a → a < X.no := fun a ha => by have := o1 a ha; omega
  have o2' : ∀ a, (X.N m).two = some a → a < X.no := fun a ha => by have := o2 a ha; omega
  have e1 := oI_is (i := i) hn hSl o1' (by omega)
  have e2 := oI_is (i := i) hn hSl o2' (by omega)
  refine rk_Con.of [some (.ref (A 0)), some (.int (nI m)), some (.int (nI i)), none] rfl (Nat.le_of_ble_eq_true rfl) (by decide +kernel) ?_
  cases ho : (X.N m).one with
  | none =>
    rw [ho] at e1
    have ehi : hI X.N S R m i = decide ((X.N m).two.map S = some i) := by unfold hI; rw [ho]; simp
    rw [ehi]
    refine rk_aload_n dR_hasInput_0 rfl ?_
    refine rk_aload_n dR_hasInput_1 rfl ?_
    refine rk_getf fR_20 dR_hasInput_2 k.m rfl ?_
    refine rk_iload_n dR_hasInput_5 rfl ?_
    refine rk_iald dR_hasInput_6 k.on (vp_in_nI (show m < 14 by omega) (by omega)) ?_
    rw [nI_clamp (show m < 2 ^ 31 by omega), ho]
    refine rk_cvV (c_R_standFor b A X k none (fun a ha => by cases ha)) cR_143 dR_hasInput_7 rfl lR_standFor (Nat.le_of_ble_eq_true rfl) (Nat.le_of_ble_eq_true rfl) (Nat.le_of_ble_eq_true rfl) (Nat.le_of_ble_eq_true rfl) k.m ?_
    rw [show mnt X.st none = -1 from rfl]
    refine rk_istore_n dR_hasInput_10 (Nat.le_of_ble_eq_true rfl) ?_
    refine rk_iload_n dR_hasInput_11 rfl ?_
    refine rk_iload_n dR_hasInput_12 rfl ?_
    refine rk_icmp_eq 30 dR_hasInput_13 (by decide) (fun q_13 => ?_) (fun q_13 => ?_)
    · exact absurd (e1.mp q_13) (by intro z; cases z)
    · refine rk_aload_n dR_hasInput_16 rfl ?_
      refine rk_aload_n dR_hasInput_17 rfl ?_
      refine rk_getf fR_23 dR_hasInput_18 k.m rfl ?_
      refine rk_iload_n dR_hasInput_21 rfl ?_
      refine rk_iald dR_hasInput_22 k.tw (vp_in_nI (show m < 14 by omega) (by omega)) ?_
      rw [nI_clamp (show m < 2 ^ 31 by omega)]
      refine rk_cvV (c_R_standFor b A X k (X.N m).two (fun a ha => by have := o2 a ha; omega)) cR_143 dR_hasInput_23 rfl lR_standFor (Nat.le_of_ble_eq_true rfl) (Nat.le_of_ble_eq_true rfl) (Nat.le_of_ble_eq_true rfl) (Nat.le_of_ble_eq_true rfl) k.m ?_
      rw [mnt_S hS o2']
      refine rk_iload_n dR_hasInput_26 rfl ?_
      refine rk_icmp_ne 32 dR_hasInput_27 (by decide) (fun q_27 => ?_) (fun q_27 => ?_)
      · refine rk_iload_n dR_hasInput_32 rfl ?_
        refine rk_if_lt 64 dR_hasInput_33 (by decide) (fun q_33 => ?_) (fun q_33 => ?_)
        · refine rk_iconst (v := 0) dR_hasInput_64 (by decide) ?_
          exact rk_zret rfl rfl dR_hasInput_65 ⟨(Nat.le_of_ble_eq_true rfl), (Nat.le_of_ble_eq_true rfl)⟩ (⟨by first | (rw [decide_eq_false (mt e2.mpr q_27)]; rfl) | (rw [decide_eq_true (e2.mp q_27)]; rfl) | (rw [decide_eq_true (e2.mp (Decidable.not_not.mp q_27))]; rfl), rfl⟩)
        · exact absurd (by decide) q_33
      · refine rk_iconst (v := 1) dR_hasInput_30 (by decide) ?_
        exact rk_zret rfl rfl dR_hasInput_31 ⟨(Nat.le_of_ble_eq_true rfl), (Nat.le_of_ble_eq_true rfl)⟩ (⟨by first | (rw [decide_eq_false (mt e2.mpr q_27)]; rfl) | (rw [decide_eq_true (e2.mp q_27)]; rfl) | (rw [decide_eq_true (e2.mp (Decidable.not_not.mp q_27))]; rfl), rfl⟩)
  | some c =>
    have hc := o1 c ho
    have hSc := hSl c (by omega)
    have eSc : mnt X.st (some c) = nI (S c) := hS c (by omega)
    have e1' : nI (S c) = nI i ↔ S c = i := nI_eq (by omega) (by omega)
    have oa := (hin (S c) (by omega)).1
    have oa' : ∀ a, (X.N (S c)).one = some a → a < X.no := fun a ha => by have := oa a ha; omega
    have e3 := oI_is (i := i) hn hSl oa' (by omega)
    have er : nI (R (S c)) = 1 ↔ R (S c) = 1 := nI_eq (b := 1) (by have := h2 (S c); omega) (by omega)
    have ehi : hI X.N S R m i = (decide (S c = i) || decide ((X.N m).two.map S = some i) || (decide (R (S c) = 1) && decide ((X.N (S c)).one.map S = some i))) := by unfold hI; rw [ho]; simp
    rw [ehi]
    refine rk_aload_n dR_hasInput_0 rfl ?_
    refine rk_aload_n dR_hasInput_1 rfl ?_
    refine rk_getf fR_20 dR_hasInput_2 k.m rfl ?_
    refine rk_iload_n dR_hasInput_5 rfl ?_
    refine rk_iald dR_hasInput_6 k.on (vp_in_nI (show m < 14 by omega) (by omega)) ?_
    rw [nI_clamp (show m < 2 ^ 31 by omega), ho]
    refine rk_cvV (c_R_standFor b A X k (some c) (fun a ha => by cases ha; omega)) cR_143 dR_hasInput_7 rfl lR_standFor (Nat.le_of_ble_eq_true rfl) (Nat.le_of_ble_eq_true rfl) (Nat.le_of_ble_eq_true rfl) (Nat.le_of_ble_eq_true rfl) k.m ?_
    rw [eSc]
    refine rk_istore_n dR_hasInput_10 (Nat.le_of_ble_eq_true rfl) ?_
    refine rk_iload_n dR_hasInput_11 rfl ?_
    refine rk_iload_n dR_hasInput_12 rfl ?_
    refine rk_icmp_eq 30 dR_hasInput_13 (by decide) (fun q_13 => ?_) (fun q_13 => ?_)
    · refine rk_iconst (v := 1) dR_hasInput_30 (by decide) ?_
      exact rk_zret rfl rfl dR_hasInput_31 ⟨(Nat.le_of_ble_eq_true rfl), (Nat.le_of_ble_eq_true rfl)⟩ (⟨by simp_all [b2i], rfl⟩)
    · refine rk_aload_n dR_hasInput_16 rfl ?_
      refine rk_aload_n dR_hasInput_17 rfl ?_
      refine rk_getf fR_23 dR_hasInput_18 k.m rfl ?_
      refine rk_iload_n dR_hasInput_21 rfl ?_
      refine rk_iald dR_hasInput_22 k.tw (vp_in_nI (show m < 14 by omega) (by omega)) ?_
      rw [nI_clamp (show m < 2 ^ 31 by omega)]
      refine rk_cvV (c_R_standFor b A X k (X.N m).two (fun a ha => by have := o2 a ha; omega)) cR_143 dR_hasInput_23 rfl lR_standFor (Nat.le_of_ble_eq_true rfl) (Nat.le_of_ble_eq_true rfl) (Nat.le_of_ble_eq_true rfl) (Nat.le_of_ble_eq_true rfl) k.m ?_
      rw [mnt_S hS o2']
      refine rk_iload_n dR_hasInput_26 rfl ?_
      refine rk_icmp_ne 32 dR_hasInput_27 (by decide) (fun q_27 => ?_) (fun q_27 => ?_)
      · refine rk_iload_n dR_hasInput_32 rfl ?_
        refine rk_if_lt 64 dR_hasInput_33 (by decide) (fun q_33 => ?_) (fun q_33 => ?_)
        · exact absurd q_33 (nI_pos (by omega))
        · refine rk_aload_n dR_hasInput_36 rfl ?_
          refine rk_getf fR_67 dR_hasInput_37 k.m rfl ?_
          refine rk_iload_n dR_hasInput_40 rfl ?_
          refine rk_iald dR_hasInput_41 k.ro (vp_in_nI (show S c < 14 by omega) (by omega)) ?_
          rw [nI_clamp (show S c < 2 ^ 31 by omega), hR (S c) (by omega)]
          refine rk_iconst (v := 1) dR_hasInput_42 (by decide) ?_
          refine rk_icmp_ne 64 dR_hasInput_43 (by decide) (fun q_43 => ?_) (fun q_43 => ?_)
          · refine rk_iconst (v := 0) dR_hasInput_64 (by decide) ?_
            exact rk_zret rfl rfl dR_hasInput_65 ⟨(Nat.le_of_ble_eq_true rfl), (Nat.le_of_ble_eq_true rfl)⟩ (⟨by simp_all [b2i], rfl⟩)
          · refine rk_aload_n dR_hasInput_46 rfl ?_
            refine rk_aload_n dR_hasInput_47 rfl ?_
            refine rk_getf fR_20 dR_hasInput_48 k.m rfl ?_
            refine rk_iload_n dR_hasInput_51 rfl ?_
            refine rk_iald dR_hasInput_52 k.on (vp_in_nI (show S c < 14 by omega) (by omega)) ?_
            rw [nI_clamp (show S c < 2 ^ 31 by omega)]
            refine rk_cvV (c_R_standFor b A X k (X.N (S c)).one (fun a ha => by have := oa a ha; omega)) cR_143 dR_hasInput_53 rfl lR_standFor (Nat.le_of_ble_eq_true rfl) (Nat.le_of_ble_eq_true rfl) (Nat.le_of_ble_eq_true rfl) (Nat.le_of_ble_eq_true rfl) k.m ?_
            rw [mnt_S hS oa']
            refine rk_iload_n dR_hasInput_56 rfl ?_
            refine rk_icmp_ne 64 dR_hasInput_57 (by decide) (fun q_57 => ?_) (fun q_57 => ?_)
            · refine rk_iconst (v := 0) dR_hasInput_64 (by decide) ?_
              exact rk_zret rfl rfl dR_hasInput_65 ⟨(Nat.le_of_ble_eq_true rfl), (Nat.le_of_ble_eq_true rfl)⟩ (⟨by simp_all [b2i], rfl⟩)
            · refine rk_iconst (v := 1) dR_hasInput_60 (by decide) ?_
              refine rk_goto 65 dR_hasInput_61 (by decide) ?_
              exact rk_zret rfl rfl dR_hasInput_65 ⟨(Nat.le_of_ble_eq_true rfl), (Nat.le_of_ble_eq_true rfl)⟩ (⟨by simp_all [b2i], rfl⟩)
      · refine rk_iconst (v := 1) dR_hasInput_30 (by decide) ?_
        exact rk_zret rfl rfl dR_hasInput_31 ⟨(Nat.le_of_ble_eq_true rfl), (Nat.le_of_ble_eq_true rfl)⟩ (⟨by simp_all [b2i], rfl⟩)
theorem hI_rdB {N : Nat → aN} {n out : Nat} (hwf : wfN N n) {m i : Nat} (hm : m < n) (hr : pR N n out m = 2) (hi : pR N n out i = 2) : hI N (stS N) (pR N n out) m i = rdB N (stS N) (pR N n out) m i := by
  unfold hI rdB rdr
  cases ho : (N m).one with
  | none =>
    have ef : fuO N (stS N) (pR N n out) m = none := by unfold fuO; rw [ho]; rfl
    rw [ef]
    simp
    rw [ho]
    simp
  | some c =>
    by_cases h1 : pR N n out (stS N c) = 1
    · have ef : fuO N (stS N) (pR N n out) m = some (stS N c) := by unfold fuO; rw [ho]; simp [h1]
      have hf := fu_clamp hwf hm (by rw [pR_2 hr]; decide) ef
      have hkd := hwN_kd hf.2.1.2
      have hcn : stS N c < n := by have := hf.1.2; omega
      have t1 : (N m).two = none := by
        have h9 := hf.1.1
        rcases (hwf m hm).2 with ⟨-, -, h⟩ | ⟨a, -, h, -⟩ | ⟨a, c, -, -, h⟩
        · exact h
        · exact h
        · rcases h with ⟨h, -⟩ | ⟨h, -⟩ <;> omega
      have t2 : (N (stS N c)).two = none := by
        rcases (hwf _ hcn).2 with ⟨h, -⟩ | ⟨a, -, h, -⟩ | ⟨a, c, -, -, h⟩
        · omega
        · exact h
        · rcases h with ⟨h, -⟩ | ⟨h, -⟩ <;> omega
      have ne : ¬ stS N c = i := fun z => by rw [z, hi] at h1; cases h1
      rw [ef]
      simp [h1, t1, t2, ne]
    · have ef : fuO N (stS N) (pR N n out) m = none := by unfold fuO; rw [ho]; simp [h1]
      rw [ef]
      simp [h1]
      rw [ho]
      simp
def lvT (N : Nat → aN) (S R : Nat → Nat) (i m q : Nat) : Nat := if R m = 2 ∧ hI N S R m i = true ∧ q < cnt R m then cnt R m else q
theorem hI_0 {N : Nat → aN} {n : Nat} {S R : Nat → Nat} (hin : inOK N n) (hSl : ∀ j : Nat, j < n → S j ≤ j) {m i : Nat} (hm : m < n) (h : m ≤ i) : hI N S R m i = false := by
  have f : ∀ (m : Nat), m < n → m ≤ i → ∀ o : Option Nat, (∀ a, o = some a → a < m) → ¬ o.map S = some i := by
    intro m hm h o ho he
    cases o with
    | none => cases he
    | some a =>
      have := ho a rfl
      have := hSl a (by omega)
      cases he
      omega
  unfold hI
  rw [decide_eq_false (f m hm h _ (hin m hm).1), decide_eq_false (f m hm h _ (hin m hm).2), Bool.false_or, Bool.false_or]
  cases ho : (N m).one with
  | none => rfl
  | some c =>
    have h1 := (hin m hm).1 c ho
    have h2 := hSl c (by omega)
    show (decide (R (S c) = 1) && decide ((N (S c)).one.map S = some i)) = false
    rw [decide_eq_false (f (S c) (by omega) (by omega) _ (hin (S c) (by omega)).1), Bool.and_false]
theorem lvT_M {N : Nat → aN} {n out : Nat} (hwf : wfN N n) {i : Nat} (hi : i < n) (hr : pR N n out i = 2) : itr (lvT N (stS N) (pR N n out) i) n 0 (cnt (pR N n out) i) = lvM N (stS N) (pR N n out) n i := by
  have hin := wfN.inn hwf
  have hSl := stS_le hin
  have h0 : itr (lvT N (stS N) (pR N n out) i) (i + 1) 0 (cnt (pR N n out) i) = cnt (pR N n out) i := itr_skip _ _ _ (fun j _ h2 a => by
    unfold lvT
    rw [hI_0 hin hSl (by omega) (by omega)]
    exact if_neg (fun z => by cases z.2.1))
  have key : ∀ (k j q : Nat), q ≤ cnt (pR N n out) j → j + k ≤ n → itr (lvT N (stS N) (pR N n out) i) k j q = itr (lvS N (stS N) (pR N n out) i) k j q := by
    intro k
    induction k with
    | zero => intro j q _ _; rfl
    | succ k ih =>
      intro j q hq hj
      have es : lvT N (stS N) (pR N n out) i j q = lvS N (stS N) (pR N n out) i j q := by
        unfold lvT lvS
        by_cases h2 : pR N n out j = 2
        · rw [hI_rdB hwf (by omega) h2 hr]
          by_cases h3 : rdB N (stS N) (pR N n out) j i = true
          · rw [if_pos (show _ ∧ _ from ⟨h2, h3⟩)]
            by_cases h4 : q < cnt (pR N n out) j
            · rw [if_pos ⟨h2, h3, h4⟩]
            · rw [if_neg (fun z => h4 z.2.2)]; omega
          · rw [if_neg (fun z => h3 z.2.1), if_neg (fun z => h3 z.2)]
        · rw [if_neg (fun z => h2 z.1), if_neg (fun z => h2 z.1)]
      show itr _ k (j + 1) (lvT N (stS N) (pR N n out) i j q) = itr _ k (j + 1) (lvS N (stS N) (pR N n out) i j q)
      rw [es]
      refine ih (j + 1) _ ?_ (by omega)
      have hm := cnt_mono (R := pR N n out) (show j ≤ j + 1 by omega)
      rcases lvS_or (N := N) (S := stS N) (R := pR N n out) (i := i) (j := j) (q := q) with h | h <;> rw [h] <;> omega
  have ea := itr_app (s := lvT N (stS N) (pR N n out) i) (i + 1) (n - (i + 1)) 0 (cnt (pR N n out) i)
  rw [h0, Nat.zero_add, show i + 1 + (n - (i + 1)) = n by omega] at ea
  rw [ea]
  exact key _ _ _ (cnt_mono (by omega)) (by omega)
theorem cnt_s {R : Nat → Nat} {k : Nat} : cnt R (k + 1) = if R k = 2 then cnt R k + 1 else cnt R k := by
  show cnt R k + (if R k = 2 then 1 else 0) = _
  split <;> rfl
theorem wsn_wla {X : rX} {g : Nat → Int32} {v : Int32} : (X.wsn v).wla g = (X.wla g).wsn v := rfl
theorem wla_wla {X : rX} {f g : Nat → Int32} : (X.wla f).wla g = X.wla g := rfl
theorem wsn_la {X : rX} {v : Int32} : (X.wsn v).la = X.la := rfl
theorem wla_la {X : rX} {f : Nat → Int32} : (X.wla f).la = f := rfl
theorem wsn_wsp {X : rX} {g : Nat → Int32} {v : Int32} : (X.wsn v).wsp g = (X.wsp g).wsn v := rfl
theorem wsp_wsp {X : rX} {f g : Nat → Int32} : (X.wsp f).wsp g = X.wsp g := rfl
theorem wsn_sp {X : rX} {v : Int32} : (X.wsn v).sp = X.sp := rfl
theorem wsp_sp {X : rX} {f : Nat → Int32} : (X.wsp f).sp = f := rfl
theorem la_up {X : rX} {sp f g : Nat → Int32} {v : Int32} : (((X.wsp sp).wla f).wsn v).wla g = ((X.wsp sp).wla g).wsn v := by rw [wsn_wla, wla_wla]
theorem la_la {X : rX} {sp f : Nat → Int32} {v : Int32} : (((X.wsp sp).wla f).wsn v).la = f := by rw [wsn_la, wla_la]
theorem sp_up {X : rX} {f g : Nat → Int32} {v : Int32} : ((X.wsp f).wsn v).wsp g = (X.wsp g).wsn v := by rw [wsn_wsp, wsp_wsp]
theorem sp_sp {X : rX} {f : Nat → Int32} {v : Int32} : ((X.wsp f).wsn v).sp = f := by rw [wsn_sp, wsp_sp]
theorem sn_up {X : rX} {v w : Int32} : (X.wsn v).wsn w = X.wsn w := rfl
theorem sn_sn {X : rX} {v : Int32} : (X.wsn v).sn = v := rfl
def lvR (N : Nat → aN) (n out : Nat) (i : Nat) : Nat := if i = stS N out then cnt (pR N n out) n else lvM N (stS N) (pR N n out) n i
def liP (b : rk_H) (A : Nat → Nat) (X : rX) (out : Nat) : rk_P := fun r h' => r = .inl none ∧ ∃ sp la : Nat → Int32, h' = rv b A (((X.wsp sp).wla la).wsn (nI (cnt (pR X.N X.no out) X.no))) ∧ plK sp (pR X.N X.no out) (cnt (pR X.N X.no out)) X.no ∧ plK la (pR X.N X.no out) (lvR X.N X.no out) X.no
theorem c_R_findLives (b : rk_H) (A : Nat → Nat) (X : rX) (k : rA A) (out : Nat) (hn : X.no ≤ 14) (hou : X.ou = some out) (ho : out < X.no) (hwf : wfN X.N X.no) (hS : sfK X.st (stS X.N) X.no) (hR : sfK X.ro (pR X.N X.no out) X.no) :
    rk_Con mR_findLives (2, 28, 0, 0) [.ref (A 0)] (rv b A X) (liP b A X out) := by
  have hin := wfN.inn hwf
  have hSl := stS_le hin
  have hSo := hSl out ho
  have h2 := pR_le X.N X.no out
  have e2 : ∀ j, nI (pR X.N X.no out j) = 2 ↔ pR X.N X.no out j = 2 := fun j => nI_eq (b := 2) (by have := h2 j; omega) (by omega)
  have hcn : ∀ j, cnt (pR X.N X.no out) j ≤ j := fun j => cnt_le
  have L2 : ∀ (sp : Nat → Int32), plK sp (pR X.N X.no out) (cnt (pR X.N X.no out)) X.no → ∀ (k1 i : Nat) (la : Nat → Int32), i + k1 = X.no → plK la (pR X.N X.no out) (lvM X.N (stS X.N) (pR X.N X.no out) X.no) i → rk_Run mR_findLives (2, 28, 0, 0) (liP b A X out) 53 [some (.ref (A 0)), some (.int (nI i)), none] [] (rv b A (((X.wsp sp).wla la).wsn (nI (cnt (pR X.N X.no out) X.no)))) (0, 0) := by
    intro sp hsp k1
    induction k1 with
    | zero =>
      intro i la hi hla
      have hi : i = X.no := by omega
      subst hi
      refine rk_iload_n dR_findLives_53 rfl ?_
      refine rk_aload_n dR_findLives_54 rfl ?_
      refine rk_getf fR_106 dR_findLives_55 k.m rfl ?_
      first | simp only [wro_no, wst_no, wsp_no, wla_no, wsn_no, wpl_no, wpk_no] | skip
      refine rk_icmp_ge 151 dR_findLives_58 (by decide) (fun q_58 => ?_) (fun q_58 => ?_)
      · refine rk_aload_n dR_findLives_151 rfl ?_
        refine rk_getf fR_73 dR_findLives_152 k.m rfl ?_
        refine rk_aload_n dR_findLives_155 rfl ?_
        refine rk_getf fR_64 dR_findLives_156 k.m rfl ?_
        refine rk_aload_n dR_findLives_159 rfl ?_
        refine rk_getf fR_60 dR_findLives_160 k.m rfl ?_
        rw [show (((X.wsp sp).wla la).wsn (nI (cnt (pR X.N X.no out) X.no))).ou = some out from hou]
        refine rk_iald dR_findLives_163 k.st (vp_in_nI (show out < 14 by omega) (by omega)) ?_
        rw [show (((X.wsp sp).wla la).wsn (nI (cnt (pR X.N X.no out) X.no))).st (oI (some out)).toNatClampNeg = nI (stS X.N out) by rw [show oI (some out) = nI out from rfl, nI_clamp (show out < 2 ^ 31 by omega)]; exact hS out ho]
        refine rk_aload_n dR_findLives_164 rfl ?_
        refine rk_getf fR_152 dR_findLives_165 k.m rfl ?_
        refine rk_iast dR_findLives_168 k.la (vp_in_nI (show stS X.N out < 14 by omega) (by omega)) ?_
        rw [k.ula]
        exact rk_ret rfl dR_findLives_169 ⟨(Nat.le_of_ble_eq_true rfl), (Nat.le_of_ble_eq_true rfl)⟩ (⟨rfl, sp, upd la (stS X.N out) (nI (cnt (pR X.N X.no out) X.no)), by rw [nI_clamp (show stS X.N out < 2 ^ 31 by omega), la_up, la_la, sn_sn], hsp, fun j hj hr => by unfold lvR upd; by_cases hz : j = stS X.N out; rw [if_pos hz, if_pos hz]; rw [if_neg hz, if_neg hz]; exact hla j hj hr⟩)
      · exact absurd (nI_le (Nat.le_refl _) (by omega)) q_58
    | succ k1 ih =>
      intro i la hi hla
      have hRi : ∀ la' : Nat → Int32, (((X.wsp sp).wla la').wsn (nI (cnt (pR X.N X.no out) X.no))).ro i = nI (pR X.N X.no out i) := fun _ => hR i (by omega)
      have nx : ∀ la' : Nat → Int32, plK la' (pR X.N X.no out) (lvM X.N (stS X.N) (pR X.N X.no out) X.no) (i + 1) → rk_Run mR_findLives (2, 28, 0, 0) (liP b A X out) 145 [some (.ref (A 0)), some (.int (nI i)), none] [] (rv b A (((X.wsp sp).wla la').wsn (nI (cnt (pR X.N X.no out) X.no)))) (0, 0) := by
        intro la' h
        refine rk_iinc dR_findLives_145 rfl (inc1 i) (Nat.le_of_ble_eq_true rfl) ?_
        refine rk_goto 53 dR_findLives_148 (by decide) ?_
        exact ih (i + 1) la' (by omega) h
      by_cases hr : pR X.N X.no out i = 2
      · have inner : ∀ (k2 m q : Nat), m + k2 = X.no → q ≤ 14 → itr (lvT X.N (stS X.N) (pR X.N X.no out) i) k2 m q = lvM X.N (stS X.N) (pR X.N X.no out) X.no i → rk_Run mR_findLives (2, 28, 0, 0) (liP b A X out) 75 [some (.ref (A 0)), some (.int (nI i)), some (.int (nI m))] [] (rv b A (((X.wsp sp).wla (upd la i (nI q))).wsn (nI (cnt (pR X.N X.no out) X.no)))) (0, 0) := by
          intro k2
          induction k2 with
          | zero =>
            intro m q hm hq14 hq
            have hm : m = X.no := by omega
            subst hm
            have hq : q = _ := hq
            have e := nx (upd la i (nI q)) (fun j hj hr => by
              unfold upd
              by_cases hz : j = i
              · rw [if_pos hz, hz, hq]
              · rw [if_neg hz]; exact hla j (by omega) hr)
            refine rk_iload_n dR_findLives_75 rfl ?_
            refine rk_aload_n dR_findLives_76 rfl ?_
            refine rk_getf fR_106 dR_findLives_77 k.m rfl ?_
            first | simp only [wro_no, wst_no, wsp_no, wla_no, wsn_no, wpl_no, wpk_no] | skip
            refine rk_icmp_ge 145 dR_findLives_80 (by decide) (fun q_80 => ?_) (fun q_80 => ?_)
            · refine rk_lv [some (.ref (A 0)), some (.int (nI i)), none] ⟨rfl, rfl, trivial⟩ ?_
              exact e
            · exact absurd (nI_le (Nat.le_refl _) (by omega)) q_80
          | succ k2 ih2 =>
            intro m q hm hq14 hq
            have hRm : (((X.wsp sp).wla (upd la i (nI q))).wsn (nI (cnt (pR X.N X.no out) X.no))).ro m = nI (pR X.N X.no out m) := hR m (by omega)
            have elt : nI (cnt (pR X.N X.no out) m) ≤ nI q ↔ cnt (pR X.N X.no out) m ≤ q := nI_leI (by have := hcn m; omega) (by omega)
            have hl : (((X.wsp sp).wla (upd la i (nI q))).wsn (nI (cnt (pR X.N X.no out) X.no))).la i = nI q := if_pos rfl
            have st : ∀ q', lvT X.N (stS X.N) (pR X.N X.no out) i m q = q' → rk_Run mR_findLives (2, 28, 0, 0) (liP b A X out) 139 [some (.ref (A 0)), some (.int (nI i)), some (.int (nI m))] [] (rv b A (((X.wsp sp).wla (upd la i (nI q'))).wsn (nI (cnt (pR X.N X.no out) X.no)))) (0, 0) := by
              intro q' hq'
              have hh : itr (lvT X.N (stS X.N) (pR X.N X.no out) i) k2 (m + 1) (lvT X.N (stS X.N) (pR X.N X.no out) i m q) = _ := hq
              rw [hq'] at hh
              have hq1 : q' ≤ 14 := by rw [← hq']; unfold lvT; have := hcn m; split <;> omega
              refine rk_iinc dR_findLives_139 rfl (inc1 m) (Nat.le_of_ble_eq_true rfl) ?_
              refine rk_goto 75 dR_findLives_142 (by decide) ?_
              exact ih2 (m + 1) q' (by omega) hq1 hh
            have no : ¬ (pR X.N X.no out m = 2 ∧ hI X.N (stS X.N) (pR X.N X.no out) m i = true ∧ q < cnt (pR X.N X.no out) m) → rk_Run mR_findLives (2, 28, 0, 0) (liP b A X out) 139 [some (.ref (A 0)), some (.int (nI i)), some (.int (nI m))] [] (rv b A (((X.wsp sp).wla (upd la i (nI q))).wsn (nI (cnt (pR X.N X.no out) X.no)))) (0, 0) := fun h => st q (if_neg h)
            refine rk_iload_n dR_findLives_75 rfl ?_
            refine rk_aload_n dR_findLives_76 rfl ?_
            refine rk_getf fR_106 dR_findLives_77 k.m rfl ?_
            first | simp only [wro_no, wst_no, wsp_no, wla_no, wsn_no, wpl_no, wpk_no] | skip
            refine rk_icmp_ge 145 dR_findLives_80 (by decide) (fun q_80 => ?_) (fun q_80 => ?_)
            · exact absurd q_80 (nI_ge (by omega) (by omega))
            · refine rk_aload_n dR_findLives_83 rfl ?_
              refine rk_getf fR_67 dR_findLives_84 k.m rfl ?_
              refine rk_iload_n dR_findLives_87 rfl ?_
              refine rk_iald dR_findLives_88 k.ro (vp_in_nI (show m < 14 by omega) (by omega)) ?_
              rw [nI_clamp (show m < 2 ^ 31 by omega), hRm]
              refine rk_iconst (v := 2) dR_findLives_89 (by decide) ?_
              refine rk_icmp_ne 139 dR_findLives_90 (by decide) (fun q_90 => ?_) (fun q_90 => ?_)
              · first | exact no (fun z => q_90 ((e2 m).mpr z.1)) | exact absurd ((e2 i).mpr hr) q_100 | exact no (fun z => absurd z.2.1 (by rw [show hI X.N (stS X.N) (pR X.N X.no out) m i = false from b2p q_109]; decide)) | exact no (fun z => absurd (elt.mp q_124) (by omega))
              · have hr2 := (e2 m).mp (by first | exact q_90 | exact Decidable.not_not.mp q_90)
                refine rk_aload_n dR_findLives_93 rfl ?_
                refine rk_getf fR_67 dR_findLives_94 k.m rfl ?_
                refine rk_iload_n dR_findLives_97 rfl ?_
                refine rk_iald dR_findLives_98 k.ro (vp_in_nI (show i < 14 by omega) (by omega)) ?_
                rw [nI_clamp (show i < 2 ^ 31 by omega), hRi]
                refine rk_iconst (v := 2) dR_findLives_99 (by decide) ?_
                refine rk_icmp_ne 139 dR_findLives_100 (by decide) (fun q_100 => ?_) (fun q_100 => ?_)
                · first | exact no (fun z => q_90 ((e2 m).mpr z.1)) | exact absurd ((e2 i).mpr hr) q_100 | exact no (fun z => absurd z.2.1 (by rw [show hI X.N (stS X.N) (pR X.N X.no out) m i = false from b2p q_109]; decide)) | exact no (fun z => absurd (elt.mp q_124) (by omega))
                · refine rk_aload_n dR_findLives_103 rfl ?_
                  refine rk_iload_n dR_findLives_104 rfl ?_
                  refine rk_iload_n dR_findLives_105 rfl ?_
                  refine rk_cvV (c_R_hasInput b A _ k (stS X.N) (pR X.N X.no out) m i hn (show m < X.no by omega) (show i < X.no by omega) hin hS hSl hR h2) cR_155 dR_findLives_106 rfl lR_hasInput (Nat.le_of_ble_eq_true rfl) (Nat.le_of_ble_eq_true rfl) (Nat.le_of_ble_eq_true rfl) (Nat.le_of_ble_eq_true rfl) k.m ?_
                  refine rk_if_eq 139 dR_findLives_109 (by decide) (fun q_109 => ?_) (fun q_109 => ?_)
                  · first | exact no (fun z => q_90 ((e2 m).mpr z.1)) | exact absurd ((e2 i).mpr hr) q_100 | exact no (fun z => absurd z.2.1 (by rw [show hI X.N (stS X.N) (pR X.N X.no out) m i = false from b2p q_109]; decide)) | exact no (fun z => absurd (elt.mp q_124) (by omega))
                  · refine rk_aload_n dR_findLives_112 rfl ?_
                    refine rk_getf fR_70 dR_findLives_113 k.m rfl ?_
                    refine rk_iload_n dR_findLives_116 rfl ?_
                    refine rk_iald dR_findLives_117 k.sp (vp_in_nI (show m < 14 by omega) (by omega)) ?_
                    rw [nI_clamp (show m < 2 ^ 31 by omega), show (((X.wsp sp).wla (upd la i (nI q))).wsn (nI (cnt (pR X.N X.no out) X.no))).sp m = nI (cnt (pR X.N X.no out) m) from hsp m (by omega) hr2]
                    refine rk_aload_n dR_findLives_118 rfl ?_
                    refine rk_getf fR_73 dR_findLives_119 k.m rfl ?_
                    refine rk_iload_n dR_findLives_122 rfl ?_
                    refine rk_iald dR_findLives_123 k.la (vp_in_nI (show i < 14 by omega) (by omega)) ?_
                    rw [nI_clamp (show i < 2 ^ 31 by omega), hl]
                    refine rk_icmp_le 139 dR_findLives_124 (by decide) (fun q_124 => ?_) (fun q_124 => ?_)
                    · first | exact no (fun z => q_90 ((e2 m).mpr z.1)) | exact absurd ((e2 i).mpr hr) q_100 | exact no (fun z => absurd z.2.1 (by rw [show hI X.N (stS X.N) (pR X.N X.no out) m i = false from b2p q_109]; decide)) | exact no (fun z => absurd (elt.mp q_124) (by omega))
                    · refine rk_aload_n dR_findLives_127 rfl ?_
                      refine rk_getf fR_73 dR_findLives_128 k.m rfl ?_
                      refine rk_iload_n dR_findLives_131 rfl ?_
                      refine rk_aload_n dR_findLives_132 rfl ?_
                      refine rk_getf fR_70 dR_findLives_133 k.m rfl ?_
                      refine rk_iload_n dR_findLives_136 rfl ?_
                      refine rk_iald dR_findLives_137 k.sp (vp_in_nI (show m < 14 by omega) (by omega)) ?_
                      rw [nI_clamp (show m < 2 ^ 31 by omega), show (((X.wsp sp).wla (upd la i (nI q))).wsn (nI (cnt (pR X.N X.no out) X.no))).sp m = nI (cnt (pR X.N X.no out) m) from hsp m (by omega) hr2]
                      refine rk_iast dR_findLives_138 k.la (vp_in_nI (show i < 14 by omega) (by omega)) ?_
                      rw [k.ula, la_up, la_la]
                      have e := st (cnt (pR X.N X.no out) m) (if_pos ⟨hr2, b2p' q_109, by have := mt elt.mpr q_124; omega⟩)
                      rw [nI_clamp (show i < 2 ^ 31 by omega), upd_up2]
                      exact e
        have e := inner X.no 0 (cnt (pR X.N X.no out) i) (by omega) (by have := hcn i; omega) (lvT_M hwf (by omega) hr)
        refine rk_iload_n dR_findLives_53 rfl ?_
        refine rk_aload_n dR_findLives_54 rfl ?_
        refine rk_getf fR_106 dR_findLives_55 k.m rfl ?_
        first | simp only [wro_no, wst_no, wsp_no, wla_no, wsn_no, wpl_no, wpk_no] | skip
        refine rk_icmp_ge 151 dR_findLives_58 (by decide) (fun q_58 => ?_) (fun q_58 => ?_)
        · exact absurd q_58 (nI_ge (by omega) (by omega))
        · refine rk_aload_n dR_findLives_61 rfl ?_
          refine rk_getf fR_73 dR_findLives_62 k.m rfl ?_
          refine rk_iload_n dR_findLives_65 rfl ?_
          refine rk_aload_n dR_findLives_66 rfl ?_
          refine rk_getf fR_70 dR_findLives_67 k.m rfl ?_
          refine rk_iload_n dR_findLives_70 rfl ?_
          refine rk_iald dR_findLives_71 k.sp (vp_in_nI (show i < 14 by omega) (by omega)) ?_
          rw [nI_clamp (show i < 2 ^ 31 by omega), show (((X.wsp sp).wla la).wsn (nI (cnt (pR X.N X.no out) X.no))).sp i = nI (cnt (pR X.N X.no out) i) from hsp i (by omega) hr]
          refine rk_iast dR_findLives_72 k.la (vp_in_nI (show i < 14 by omega) (by omega)) ?_
          rw [k.ula]
          refine rk_iconst (v := 0) dR_findLives_73 (by decide) ?_
          refine rk_istore_n dR_findLives_74 (Nat.le_of_ble_eq_true rfl) ?_
          rw [nI_clamp (show i < 2 ^ 31 by omega), la_up, la_la]
          exact e
      · have inner : ∀ (v : Int32) (k2 m : Nat), m + k2 = X.no → rk_Run mR_findLives (2, 28, 0, 0) (liP b A X out) 75 [some (.ref (A 0)), some (.int (nI i)), some (.int (nI m))] [] (rv b A (((X.wsp sp).wla (upd la i v)).wsn (nI (cnt (pR X.N X.no out) X.no)))) (0, 0) := by
          intro v k2
          induction k2 with
          | zero =>
            intro m hm
            have hm : m = X.no := by omega
            subst hm
            have e := nx (upd la i v) (fun j hj hr' => by
              unfold upd
              by_cases hz : j = i
              · rw [hz] at hr'; exact absurd hr' hr
              · rw [if_neg hz]; exact hla j (by omega) hr')
            refine rk_iload_n dR_findLives_75 rfl ?_
            refine rk_aload_n dR_findLives_76 rfl ?_
            refine rk_getf fR_106 dR_findLives_77 k.m rfl ?_
            first | simp only [wro_no, wst_no, wsp_no, wla_no, wsn_no, wpl_no, wpk_no] | skip
            refine rk_icmp_ge 145 dR_findLives_80 (by decide) (fun q_80 => ?_) (fun q_80 => ?_)
            · refine rk_lv [some (.ref (A 0)), some (.int (nI i)), none] ⟨rfl, rfl, trivial⟩ ?_
              exact e
            · exact absurd (nI_le (Nat.le_refl _) (by omega)) q_80
          | succ k2 ih2 =>
            intro m hm
            have st : rk_Run mR_findLives (2, 28, 0, 0) (liP b A X out) 139 [some (.ref (A 0)), some (.int (nI i)), some (.int (nI m))] [] (rv b A (((X.wsp sp).wla (upd la i v)).wsn (nI (cnt (pR X.N X.no out) X.no)))) (0, 0) := by
              refine rk_iinc dR_findLives_139 rfl (inc1 m) (Nat.le_of_ble_eq_true rfl) ?_
              refine rk_goto 75 dR_findLives_142 (by decide) ?_
              exact ih2 (m + 1) (by omega)
            refine rk_iload_n dR_findLives_75 rfl ?_
            refine rk_aload_n dR_findLives_76 rfl ?_
            refine rk_getf fR_106 dR_findLives_77 k.m rfl ?_
            first | simp only [wro_no, wst_no, wsp_no, wla_no, wsn_no, wpl_no, wpk_no] | skip
            refine rk_icmp_ge 145 dR_findLives_80 (by decide) (fun q_80 => ?_) (fun q_80 => ?_)
            · exact absurd q_80 (nI_ge (by omega) (by omega))
            · refine rk_aload_n dR_findLives_83 rfl ?_
              refine rk_getf fR_67 dR_findLives_84 k.m rfl ?_
              refine rk_iload_n dR_findLives_87 rfl ?_
              refine rk_iald dR_findLives_88 k.ro (vp_in_nI (show m < 14 by omega) (by omega)) ?_
              rw [nI_clamp (show m < 2 ^ 31 by omega)]
              refine rk_iconst (v := 2) dR_findLives_89 (by decide) ?_
              refine rk_icmp_ne 139 dR_findLives_90 (by decide) (fun q_90 => ?_) (fun q_90 => ?_)
              · exact st
              · refine rk_aload_n dR_findLives_93 rfl ?_
                refine rk_getf fR_67 dR_findLives_94 k.m rfl ?_
                refine rk_iload_n dR_findLives_97 rfl ?_
                refine rk_iald dR_findLives_98 k.ro (vp_in_nI (show i < 14 by omega) (by omega)) ?_
                rw [nI_clamp (show i < 2 ^ 31 by omega), hRi]
                refine rk_iconst (v := 2) dR_findLives_99 (by decide) ?_
                refine rk_icmp_ne 139 dR_findLives_100 (by decide) (fun q_100 => ?_) (fun q_100 => ?_)
                · exact st
                · exact absurd ((e2 i).mp q_100) hr
        refine rk_iload_n dR_findLives_53 rfl ?_
        refine rk_aload_n dR_findLives_54 rfl ?_
        refine rk_getf fR_106 dR_findLives_55 k.m rfl ?_
        first | simp only [wro_no, wst_no, wsp_no, wla_no, wsn_no, wpl_no, wpk_no] | skip
        refine rk_icmp_ge 151 dR_findLives_58 (by decide) (fun q_58 => ?_) (fun q_58 => ?_)
        · exact absurd q_58 (nI_ge (by omega) (by omega))
        · refine rk_aload_n dR_findLives_61 rfl ?_
          refine rk_getf fR_73 dR_findLives_62 k.m rfl ?_
          refine rk_iload_n dR_findLives_65 rfl ?_
          refine rk_aload_n dR_findLives_66 rfl ?_
          refine rk_getf fR_70 dR_findLives_67 k.m rfl ?_
          refine rk_iload_n dR_findLives_70 rfl ?_
          refine rk_iald dR_findLives_71 k.sp (vp_in_nI (show i < 14 by omega) (by omega)) ?_
          rw [nI_clamp (show i < 2 ^ 31 by omega)]
          refine rk_iast dR_findLives_72 k.la (vp_in_nI (show i < 14 by omega) (by omega)) ?_
          rw [k.ula]
          refine rk_iconst (v := 0) dR_findLives_73 (by decide) ?_
          refine rk_istore_n dR_findLives_74 (Nat.le_of_ble_eq_true rfl) ?_
          rw [nI_clamp (show i < 2 ^ 31 by omega), la_up, la_la]
          exact inner _ X.no 0 (by omega)
  have L1 : ∀ (k1 i : Nat) (sp : Nat → Int32), i + k1 = X.no → plK sp (pR X.N X.no out) (cnt (pR X.N X.no out)) i → rk_Run mR_findLives (2, 28, 0, 0) (liP b A X out) 7 [some (.ref (A 0)), some (.int (nI i)), none] [] (rv b A ((X.wsp sp).wsn (nI (cnt (pR X.N X.no out) i)))) (0, 0) := by
    intro k1
    induction k1 with
    | zero =>
      intro i sp hi hsp
      have hi : i = X.no := by omega
      subst hi
      refine rk_iload_n dR_findLives_7 rfl ?_
      refine rk_aload_n dR_findLives_8 rfl ?_
      refine rk_getf fR_106 dR_findLives_9 k.m rfl ?_
      first | simp only [wro_no, wst_no, wsp_no, wla_no, wsn_no, wpl_no, wpk_no] | skip
      refine rk_icmp_ge 51 dR_findLives_12 (by decide) (fun q_12 => ?_) (fun q_12 => ?_)
      · refine rk_iconst (v := 0) dR_findLives_51 (by decide) ?_
        refine rk_istore_n dR_findLives_52 (Nat.le_of_ble_eq_true rfl) ?_
        exact L2 sp hsp X.no 0 X.la (by omega) (fun j hj => absurd hj (Nat.not_lt_zero _))
      · exact absurd (nI_le (Nat.le_refl _) (by omega)) q_12
    | succ k1 ih =>
      intro i sp hi hsp
      have hRi : ((X.wsp sp).wsn (nI (cnt (pR X.N X.no out) i))).ro i = nI (pR X.N X.no out i) := hR i (by omega)
      by_cases hr : pR X.N X.no out i = 2
      · have ec : cnt (pR X.N X.no out) (i + 1) = cnt (pR X.N X.no out) i + 1 := cnt_s.trans (if_pos hr)
        have e := ih (i + 1) (upd sp i (nI (cnt (pR X.N X.no out) i))) (by omega) (fun j hj hr' => by
          unfold upd
          by_cases hz : j = i
          · rw [if_pos hz, hz]
          · rw [if_neg hz]; exact hsp j (by omega) hr')
        rw [ec] at e
        refine rk_iload_n dR_findLives_7 rfl ?_
        refine rk_aload_n dR_findLives_8 rfl ?_
        refine rk_getf fR_106 dR_findLives_9 k.m rfl ?_
        first | simp only [wro_no, wst_no, wsp_no, wla_no, wsn_no, wpl_no, wpk_no] | skip
        refine rk_icmp_ge 51 dR_findLives_12 (by decide) (fun q_12 => ?_) (fun q_12 => ?_)
        · exact absurd q_12 (nI_ge (by omega) (by omega))
        · refine rk_aload_n dR_findLives_15 rfl ?_
          refine rk_getf fR_67 dR_findLives_16 k.m rfl ?_
          refine rk_iload_n dR_findLives_19 rfl ?_
          refine rk_iald dR_findLives_20 k.ro (vp_in_nI (show i < 14 by omega) (by omega)) ?_
          rw [nI_clamp (show i < 2 ^ 31 by omega), hRi]
          refine rk_iconst (v := 2) dR_findLives_21 (by decide) ?_
          refine rk_icmp_ne 45 dR_findLives_22 (by decide) (fun q_22 => ?_) (fun q_22 => ?_)
          · exact absurd ((e2 i).mpr hr) q_22
          · refine rk_aload_n dR_findLives_25 rfl ?_
            refine rk_getf fR_70 dR_findLives_26 k.m rfl ?_
            refine rk_iload_n dR_findLives_29 rfl ?_
            refine rk_aload_n dR_findLives_30 rfl ?_
            refine rk_getf fR_152 dR_findLives_31 k.m rfl ?_
            refine rk_iast dR_findLives_34 k.sp (vp_in_nI (show i < 14 by omega) (by omega)) ?_
            rw [k.usp]
            rw [nI_clamp (show i < 2 ^ 31 by omega), sp_up, sp_sp, sn_sn]
            refine rk_aload_n dR_findLives_35 rfl ?_
            refine rk_dup dR_findLives_36 rfl ?_
            refine rk_getf fR_152 dR_findLives_37 k.m rfl ?_
            refine rk_iconst (v := 1) dR_findLives_40 (by decide) ?_
            refine rk_iadd dR_findLives_41 ?_
            rw [sn_sn, show nI (cnt (pR X.N X.no out) i) + 1 = nI (cnt (pR X.N X.no out) i + 1) from nI_1 _]
            refine rk_putf pR_152 dR_findLives_42 k.m (Nat.le_of_ble_eq_true rfl) rfl rfl ?_
            rw [k.usn]
            rw [sn_up]
            refine rk_iinc dR_findLives_45 rfl (inc1 i) (Nat.le_of_ble_eq_true rfl) ?_
            refine rk_goto 7 dR_findLives_48 (by decide) ?_
            exact e
      · have ec : cnt (pR X.N X.no out) (i + 1) = cnt (pR X.N X.no out) i := cnt_s.trans (if_neg hr)
        have e := ih (i + 1) sp (by omega) (fun j hj hr' => by
          by_cases hz : j = i
          · rw [hz] at hr'; exact absurd hr' hr
          · exact hsp j (by omega) hr')
        rw [ec] at e
        refine rk_iload_n dR_findLives_7 rfl ?_
        refine rk_aload_n dR_findLives_8 rfl ?_
        refine rk_getf fR_106 dR_findLives_9 k.m rfl ?_
        first | simp only [wro_no, wst_no, wsp_no, wla_no, wsn_no, wpl_no, wpk_no] | skip
        refine rk_icmp_ge 51 dR_findLives_12 (by decide) (fun q_12 => ?_) (fun q_12 => ?_)
        · exact absurd q_12 (nI_ge (by omega) (by omega))
        · refine rk_aload_n dR_findLives_15 rfl ?_
          refine rk_getf fR_67 dR_findLives_16 k.m rfl ?_
          refine rk_iload_n dR_findLives_19 rfl ?_
          refine rk_iald dR_findLives_20 k.ro (vp_in_nI (show i < 14 by omega) (by omega)) ?_
          rw [nI_clamp (show i < 2 ^ 31 by omega), hRi]
          refine rk_iconst (v := 2) dR_findLives_21 (by decide) ?_
          refine rk_icmp_ne 45 dR_findLives_22 (by decide) (fun q_22 => ?_) (fun q_22 => ?_)
          · refine rk_iinc dR_findLives_45 rfl (inc1 i) (Nat.le_of_ble_eq_true rfl) ?_
            refine rk_goto 7 dR_findLives_48 (by decide) ?_
            exact e
          · exact absurd ((e2 i).mp q_22) hr
  refine rk_Con.of [some (.ref (A 0)), none, none] rfl (Nat.le_of_ble_eq_true rfl) (by decide +kernel) ?_
  refine rk_aload_n dR_findLives_0 rfl ?_
  refine rk_iconst (v := 0) dR_findLives_1 (by decide) ?_
  refine rk_putf pR_152 dR_findLives_2 k.m (Nat.le_of_ble_eq_true rfl) rfl rfl ?_
  rw [k.usn]
  refine rk_iconst (v := 0) dR_findLives_5 (by decide) ?_
  refine rk_istore_n dR_findLives_6 (Nat.le_of_ble_eq_true rfl) ?_
  exact L1 X.no 0 X.sp (by omega) (fun j hj => absurd hj (Nat.not_lt_zero _))
