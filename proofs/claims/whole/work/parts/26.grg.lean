/-! Graph: places -/
theorem fstA_lt {p : Nat → Bool} {k i : Nat} (h : fstA p k i < i + k) : p (fstA p k i) = true := by
  induction k generalizing i with
  | zero => unfold fstA at h; omega
  | succ k ih =>
    cases hp : p i with
    | true => rw [fstA_y hp]; exact hp
    | false =>
      rw [fstA_n hp] at h ⊢
      exact ih (by omega)
theorem fstA_before {p : Nat → Bool} {k i j : Nat} (h1 : i ≤ j) (h2 : j < fstA p k i) : p j = false := by
  induction k generalizing i with
  | zero => unfold fstA at h2; omega
  | succ k ih =>
    cases hp : p i with
    | true => rw [fstA_y hp] at h2; omega
    | false =>
      rw [fstA_n hp] at h2
      by_cases hij : j = i
      · rw [hij]; exact hp
      · exact ih (by omega) h2
theorem fstA_first {p : Nat → Bool} {k i t : Nat} (hp : p t = true) (h1 : i ≤ t) : fstA p k i ≤ t ∨ t ≥ i + k := by
  by_cases h : t < fstA p k i
  · have := fstA_before h1 h
    rw [hp] at this; cases this
  · left; omega
theorem fstA_is {p : Nat → Bool} {k t : Nat} (hp : p t = true) (hb : ∀ j, j < t → p j = false) (hk : t < k) : fstA p k 0 = t := by
  have h1 := fstA_first (k := k) hp (Nat.zero_le t)
  have h2 : fstA p k 0 ≤ t := by omega
  by_cases h3 : fstA p k 0 < t
  · have a1 := hb _ h3
    have a2 := fstA_lt (p := p) (k := k) (i := 0) (by omega)
    rw [a1] at a2; cases a2
  · omega
theorem fstA_none {p : Nat → Bool} {k : Nat} : fstA p k 0 = k ↔ ∀ j, j < k → p j = false := by
  constructor
  · intro h j hj
    exact fstA_before (k := k) (i := 0) (Nat.zero_le _) (by omega)
  · intro h
    have := (fstA_le (p := p) (k := k) (i := 0)).1
    by_cases h2 : fstA p k 0 < k
    · have a := fstA_lt (p := p) (k := k) (i := 0) (by omega)
      rw [h _ h2] at a; cases a
    · omega
def cB (p : Nat → Bool) : Nat → Nat
  | 0 => 0
  | k + 1 => cB p k + (if p k = true then 1 else 0)
theorem cB_le {p : Nat → Bool} {k : Nat} : cB p k ≤ k := by
  induction k with
  | zero => exact Nat.le_refl _
  | succ k ih => unfold cB; split <;> omega
theorem cB_mono {p q : Nat → Bool} {k : Nat} (h : ∀ j, j < k → p j = true → q j = true) : cB p k ≤ cB q k := by
  induction k with
  | zero => exact Nat.le_refl _
  | succ k ih =>
    have := ih (fun j hj => h j (by omega))
    unfold cB
    by_cases hp : p k = true
    · rw [if_pos hp, if_pos (h k (by omega) hp)]; omega
    · rw [if_neg hp]; split <;> omega
theorem cB_more {p q : Nat → Bool} {k m : Nat} (h : ∀ j, j < k → p j = true → q j = true) (hm : m < k) (h1 : p m = false) (h2 : q m = true) : cB p k + 1 ≤ cB q k := by
  induction k with
  | zero => omega
  | succ k ih =>
    unfold cB
    by_cases hmk : m = k
    · subst hmk
      have := cB_mono (k := m) (fun j hj => h j (by omega))
      rw [if_neg (by rw [h1]; decide), if_pos h2]
      omega
    · have := ih (fun j hj => h j (by omega)) (by omega)
      by_cases hp : p k = true
      · rw [if_pos hp, if_pos (h k (by omega) hp)]; omega
      · rw [if_neg hp]; split <;> omega
theorem cB_less {p : Nat → Bool} {k m : Nat} (hm : m < k) (h1 : p m = false) : cB p k + 1 ≤ k := by
  have := cB_more (p := p) (q := fun _ => true) (k := k) (fun _ _ _ => rfl) hm h1 rfl
  have := cB_le (p := fun _ => true) (k := k)
  omega
/-- two nodes live together -/
def togB (T L : Nat → Nat) (a c : Nat) : Bool := decide (T a ≤ L c) && decide (T c ≤ L a)
/-- m lies in the way of x at t -/
def hitB (N : Nat → aN) (T L : Nat → Nat) (PT : Nat → Option Nat) (x t m : Nat) : Bool := match PT m with
  | none => false
  | some q => togB T L x m && decide (t < q + (N m).ce) && decide (q < t + (N x).ce)
theorem c_G_live (b : Nat) (A : gA) (n : Nat) (N : Nat → aN) (na : Nat → Option Nat) (ad fe : Nat → Nat) (R T L : Nat → Nat) (x y : Nat) (X : gX) (h : rk_H) (k : gOK h b A n N na ad fe) (hT : plK X.sp R T n) (hL : plK X.la R L n) (hTb : ∀ i, i < n → T i ≤ 14) (hLb : ∀ i, i < n → L i ≤ 14) (hx : x < n) (hy : y < n) (hrx : R x = 2) (hry : R y = 2) :
    rk_Con mG_liveTogether (0, 0, 0, 0) [.ref b, .int (nI x), .int (nI y)] (gv h b A X) (rk_Rv (.int (b2i (togB T L x y))) (gv h b A X)) := by
  have hn := k.n14
  have e1 := hT x hx hrx
  have e2 := hT y hy hry
  have e3 := hL x hx hrx
  have e4 := hL y hy hry
  have b1 := hTb x hx
  have b2 := hTb y hy
  have b3 := hLb x hx
  have b4 := hLb y hy
  have j1 : nI (L y) < nI (T x) ↔ L y < T x := nI_ltI (by omega) (by omega)
  have j2 : nI (L x) < nI (T y) ↔ L x < T y := nI_ltI (by omega) (by omega)
  refine rk_Con.of [some (.ref b), some (.int (nI x)), some (.int (nI y))] rfl (Nat.le_of_ble_eq_true rfl) (by decide +kernel) ?_
  refine rk_aload_n dG_liveTogether_0 rfl ?_
  refine rk_getf fG_24 dG_liveTogether_1 (by first | exact k.gb | exact k.gsp | exact k.gla | assumption) rfl ?_
  refine rk_iload_n dG_liveTogether_4 rfl ?_
  refine rk_iald dG_liveTogether_5 (by first | exact k.gb | exact k.gsp | exact k.gla | assumption) (vp_in_nI (show x < 14 by omega) (by omega)) ?_
  refine rk_aload_n dG_liveTogether_6 rfl ?_
  refine rk_getf fG_30 dG_liveTogether_7 (by first | exact k.gb | exact k.gsp | exact k.gla | assumption) rfl ?_
  refine rk_iload_n dG_liveTogether_10 rfl ?_
  refine rk_iald dG_liveTogether_11 (by first | exact k.gb | exact k.gsp | exact k.gla | assumption) (vp_in_nI (show y < 14 by omega) (by omega)) ?_
  rw [nI_clamp (show x < 2 ^ 31 by omega), nI_clamp (show y < 2 ^ 31 by omega), e1, e4]
  refine rk_icmp_gt 34 dG_liveTogether_12 (by decide) (fun q_12 => ?_) (fun q_12 => ?_)
  · refine rk_iconst (v := 0) dG_liveTogether_34 (by decide) ?_
    exact rk_zret rfl rfl dG_liveTogether_35 ⟨(Nat.le_of_ble_eq_true rfl), (Nat.le_of_ble_eq_true rfl)⟩ (⟨by unfold togB; first | (rw [decide_eq_false (Nat.not_le.mpr (j1.mp q_12))]; rfl) | (rw [decide_eq_false (p := T y ≤ L x) (Nat.not_le.mpr (j2.mp q_27)), Bool.and_false]; rfl) | (rw [decide_eq_true (Nat.not_lt.mp (fun z => q_12 (j1.mpr z))), decide_eq_true (Nat.not_lt.mp (fun z => q_27 (j2.mpr z)))]; rfl), rfl⟩)
  · refine rk_aload_n dG_liveTogether_15 rfl ?_
    refine rk_getf fG_24 dG_liveTogether_16 (by first | exact k.gb | exact k.gsp | exact k.gla | assumption) rfl ?_
    refine rk_iload_n dG_liveTogether_19 rfl ?_
    refine rk_iald dG_liveTogether_20 (by first | exact k.gb | exact k.gsp | exact k.gla | assumption) (vp_in_nI (show y < 14 by omega) (by omega)) ?_
    refine rk_aload_n dG_liveTogether_21 rfl ?_
    refine rk_getf fG_30 dG_liveTogether_22 (by first | exact k.gb | exact k.gsp | exact k.gla | assumption) rfl ?_
    refine rk_iload_n dG_liveTogether_25 rfl ?_
    refine rk_iald dG_liveTogether_26 (by first | exact k.gb | exact k.gsp | exact k.gla | assumption) (vp_in_nI (show x < 14 by omega) (by omega)) ?_
    rw [nI_clamp (show x < 2 ^ 31 by omega), nI_clamp (show y < 2 ^ 31 by omega), e2, e3]
    refine rk_icmp_gt 34 dG_liveTogether_27 (by decide) (fun q_27 => ?_) (fun q_27 => ?_)
    · refine rk_iconst (v := 0) dG_liveTogether_34 (by decide) ?_
      exact rk_zret rfl rfl dG_liveTogether_35 ⟨(Nat.le_of_ble_eq_true rfl), (Nat.le_of_ble_eq_true rfl)⟩ (⟨by unfold togB; first | (rw [decide_eq_false (Nat.not_le.mpr (j1.mp q_12))]; rfl) | (rw [decide_eq_false (p := T y ≤ L x) (Nat.not_le.mpr (j2.mp q_27)), Bool.and_false]; rfl) | (rw [decide_eq_true (Nat.not_lt.mp (fun z => q_12 (j1.mpr z))), decide_eq_true (Nat.not_lt.mp (fun z => q_27 (j2.mpr z)))]; rfl), rfl⟩)
    · refine rk_iconst (v := 1) dG_liveTogether_30 (by decide) ?_
      refine rk_goto 35 dG_liveTogether_31 (by decide) ?_
      exact rk_zret rfl rfl dG_liveTogether_35 ⟨(Nat.le_of_ble_eq_true rfl), (Nat.le_of_ble_eq_true rfl)⟩ (⟨by unfold togB; first | (rw [decide_eq_false (Nat.not_le.mpr (j1.mp q_12))]; rfl) | (rw [decide_eq_false (p := T y ≤ L x) (Nat.not_le.mpr (j2.mp q_27)), Bool.and_false]; rfl) | (rw [decide_eq_true (Nat.not_lt.mp (fun z => q_12 (j1.mpr z))), decide_eq_true (Nat.not_lt.mp (fun z => q_27 (j2.mpr z)))]; rfl), rfl⟩)
/-- a row of places -/
def plR (f : Nat → Int32) (PT : Nat → Option Nat) (n : Nat) : Prop := ∀ i : Nat, i < n → f i = oI (PT i)
/-- what is placed is a node that is to be placed, and lies below pk -/
def ptK (N : Nat → aN) (R : Nat → Nat) (n : Nat) (PT : Nat → Option Nat) (pk : Nat) : Prop := ∀ m q : Nat, PT m = some q → (m < n ∧ R m = 2) ∧ q + (N m).ce ≤ pk
def fstO (p : Nat → Bool) (n : Nat) : Option Nat := if fstA p n 0 < n then some (fstA p n 0) else none
theorem c_G_way (b : Nat) (A : gA) (n : Nat) (N : Nat → aN) (na : Nat → Option Nat) (ad fe : Nat → Nat) (R T L : Nat → Nat) (PT : Nat → Option Nat) (pk x t : Nat) (X : gX) (h : rk_H) (k : gOK h b A n N na ad fe) (hX : X.n = n) (hbd : bdOK N n) (hT : plK X.sp R T n) (hL : plK X.la R L n) (hTb : ∀ i, i < n → T i ≤ 14) (hLb : ∀ i, i < n → L i ≤ 14) (hP : plR X.pl PT n) (hK : ptK N R n PT pk) (hpk : pk ≤ 1792) (hx : x < n) (hrx : R x = 2) (ht : t ≤ 1792) :
    rk_Con mG_nodeInTheWay (1, 14, 0, 0) [.ref b, .int (nI x), .int (nI t)] (gv h b A X) (rk_Rv (.int (oI (fstO (hitB N T L PT x t) n))) (gv h b A X)) := by
  have hn := k.n14
  have hqx := (k.2.1.2 x hx).1
  have hcx := (hbd x hx).ce
  have loop : ∀ (k1 m : Nat), m + k1 = n → fstA (hitB N T L PT x t) k1 m = fstA (hitB N T L PT x t) n 0 → rk_Run mG_nodeInTheWay (1, 14, 0, 0) (rk_Rv (.int (oI (fstO (hitB N T L PT x t) n))) (gv h b A X)) 2 [some (.ref b), some (.int (nI x)), some (.int (nI t)), some (.int (nI m))] [] (gv h b A X) (0, 0) := by
    intro k1
    induction k1 with
    | zero =>
      intro m hm hf
      have hm : m = n := by omega
      subst hm
      replace hf : m = _ := hf
      refine rk_iload_n dG_nodeInTheWay_2 rfl ?_
      refine rk_aload_n dG_nodeInTheWay_3 rfl ?_
      refine rk_getf fG_33 dG_nodeInTheWay_4 (by first | exact k.gb | assumption) rfl ?_
      rw [hX]
      refine rk_icmp_ge 77 dG_nodeInTheWay_7 (by decide) (fun q_7 => ?_) (fun q_7 => ?_)
      · refine rk_iconst (v := -1) dG_nodeInTheWay_77 (by decide) ?_
        exact rk_iret rfl dG_nodeInTheWay_78 ⟨(Nat.le_of_ble_eq_true rfl), (Nat.le_of_ble_eq_true rfl)⟩ (⟨by unfold fstO; rw [if_neg (by omega)]; rfl, rfl⟩)
      · exact absurd (nI_le (Nat.le_refl _) (by omega)) q_7
    | succ k1 ih =>
      intro m hm hf
      have hmn : m < n := by omega
      have hq := (k.2.1.2 m hmn).1
      have hpm := hP m hmn
      have hcm := (hbd m hmn).ce
      cases hpt : PT m with
      | none =>
        rw [hpt] at hpm
        have hno : hitB N T L PT x t m = false := by unfold hitB; rw [hpt]
        refine rk_iload_n dG_nodeInTheWay_2 rfl ?_
        refine rk_aload_n dG_nodeInTheWay_3 rfl ?_
        refine rk_getf fG_33 dG_nodeInTheWay_4 (by first | exact k.gb | exact k.gpl | exact k.gna | exact k.gnd hmn | exact k.gnd hx | assumption) rfl ?_
        rw [hX]
        refine rk_icmp_ge 77 dG_nodeInTheWay_7 (by decide) (fun q_7 => ?_) (fun q_7 => ?_)
        · exact absurd q_7 (nI_ge (by omega) (by omega))
        · refine rk_aload_n dG_nodeInTheWay_10 rfl ?_
          refine rk_getf fG_27 dG_nodeInTheWay_11 (by first | exact k.gb | exact k.gpl | exact k.gna | exact k.gnd hmn | exact k.gnd hx | assumption) rfl ?_
          refine rk_iload_n dG_nodeInTheWay_14 rfl ?_
          refine rk_iald dG_nodeInTheWay_15 (by first | exact k.gb | exact k.gpl | exact k.gna | exact k.gnd hmn | exact k.gnd hx | assumption) (vp_in_nI (show m < 14 by omega) (by omega)) ?_
          rw [nI_clamp (show m < 2 ^ 31 by omega), hpm]
          refine rk_iconst (v := -1) dG_nodeInTheWay_16 (by decide) ?_
          refine rk_icmp_eq 71 dG_nodeInTheWay_17 (by decide) (fun q_17 => ?_) (fun q_17 => ?_)
          · refine rk_iinc dG_nodeInTheWay_71 rfl (inc1 m) (Nat.le_of_ble_eq_true rfl) ?_
            refine rk_goto 2 dG_nodeInTheWay_74 (by decide) ?_
            exact ih (m + 1) (by omega) (by rw [← hf, fstA_n hno])
          · exact absurd rfl q_17
      | some q =>
        rw [hpt] at hpm
        obtain ⟨⟨-, hrm⟩, hqb⟩ := hK m q hpt
        have ehit : hitB N T L PT x t m = (togB T L x m && decide (t < q + (N m).ce) && decide (q < t + (N x).ce)) := by unfold hitB; rw [hpt]
        have j1 : nI (q + (N m).ce) ≤ nI t ↔ q + (N m).ce ≤ t := nI_leI (by omega) (by omega)
        have j2 : nI (t + (N x).ce) ≤ nI q ↔ t + (N x).ce ≤ q := nI_leI (by omega) (by omega)
        refine rk_iload_n dG_nodeInTheWay_2 rfl ?_
        refine rk_aload_n dG_nodeInTheWay_3 rfl ?_
        refine rk_getf fG_33 dG_nodeInTheWay_4 (by first | exact k.gb | exact k.gpl | exact k.gna | exact k.gnd hmn | exact k.gnd hx | assumption) rfl ?_
        rw [hX]
        refine rk_icmp_ge 77 dG_nodeInTheWay_7 (by decide) (fun q_7 => ?_) (fun q_7 => ?_)
        · exact absurd q_7 (nI_ge (by omega) (by omega))
        · refine rk_aload_n dG_nodeInTheWay_10 rfl ?_
          refine rk_getf fG_27 dG_nodeInTheWay_11 (by first | exact k.gb | exact k.gpl | exact k.gna | exact k.gnd hmn | exact k.gnd hx | assumption) rfl ?_
          refine rk_iload_n dG_nodeInTheWay_14 rfl ?_
          refine rk_iald dG_nodeInTheWay_15 (by first | exact k.gb | exact k.gpl | exact k.gna | exact k.gnd hmn | exact k.gnd hx | assumption) (vp_in_nI (show m < 14 by omega) (by omega)) ?_
          rw [nI_clamp (show m < 2 ^ 31 by omega), hpm, show oI (some q) = nI q from rfl]
          refine rk_iconst (v := -1) dG_nodeInTheWay_16 (by decide) ?_
          refine rk_icmp_eq 71 dG_nodeInTheWay_17 (by decide) (fun q_17 => ?_) (fun q_17 => ?_)
          · exact absurd (show nI q < 0 by rw [q_17]; decide) (nI_pos (by omega))
          · refine rk_aload_n dG_nodeInTheWay_20 rfl ?_
            refine rk_iload_n dG_nodeInTheWay_21 rfl ?_
            refine rk_iload_n dG_nodeInTheWay_22 rfl ?_
            refine rk_cvV (c_G_live b A n N na ad fe R T L x m X h k hT hL hTb hLb hx hmn hrx hrm) cG_159 dG_nodeInTheWay_23 rfl lG_liveTogether (Nat.le_of_ble_eq_true rfl) (Nat.le_of_ble_eq_true rfl) (Nat.le_of_ble_eq_true rfl) (Nat.le_of_ble_eq_true rfl) (by first | exact k.gb | exact k.gpl | exact k.gna | exact k.gnd hmn | exact k.gnd hx | assumption) ?_
            refine rk_if_eq 71 dG_nodeInTheWay_26 (by decide) (fun q_26 => ?_) (fun q_26 => ?_)
            · refine rk_iinc dG_nodeInTheWay_71 rfl (inc1 m) (Nat.le_of_ble_eq_true rfl) ?_
              refine rk_goto 2 dG_nodeInTheWay_74 (by decide) ?_
              first
                | exact ih (m + 1) (by omega) (by rw [← hf, fstA_n (show hitB N T L PT x t m = false by rw [ehit, b2i_0.mp q_26]; rfl)])
                | exact ih (m + 1) (by omega) (by rw [← hf, fstA_n (show hitB N T L PT x t m = false by rw [ehit, decide_eq_false (Nat.not_lt.mpr (j1.mp q_46)), Bool.and_false]; rfl)])
                | exact ih (m + 1) (by omega) (by rw [← hf, fstA_n (show hitB N T L PT x t m = false by rw [ehit, decide_eq_false (Nat.not_lt.mpr (j2.mp q_66)), Bool.and_false])])
            · refine rk_iload_n dG_nodeInTheWay_29 rfl ?_
              refine rk_aload_n dG_nodeInTheWay_30 rfl ?_
              refine rk_getf fG_27 dG_nodeInTheWay_31 (by first | exact k.gb | exact k.gpl | exact k.gna | exact k.gnd hmn | exact k.gnd hx | assumption) rfl ?_
              refine rk_iload_n dG_nodeInTheWay_34 rfl ?_
              refine rk_iald dG_nodeInTheWay_35 (by first | exact k.gb | exact k.gpl | exact k.gna | exact k.gnd hmn | exact k.gnd hx | assumption) (vp_in_nI (show m < 14 by omega) (by omega)) ?_
              rw [nI_clamp (show m < 2 ^ 31 by omega), hpm, show oI (some q) = nI q from rfl]
              refine rk_aload_n dG_nodeInTheWay_36 rfl ?_
              refine rk_getf fG_11 dG_nodeInTheWay_37 (by first | exact k.gb | exact k.gpl | exact k.gna | exact k.gnd hmn | exact k.gnd hx | assumption) rfl ?_
              refine rk_iload_n dG_nodeInTheWay_40 rfl ?_
              refine rk_aald rfl dG_nodeInTheWay_41 (by first | exact k.gb | exact k.gpl | exact k.gna | exact k.gnd hmn | exact k.gnd hx | assumption) (vp_in_nI (show m < 14 by omega) (by omega)) (v_nd (by omega) hq) ?_
              refine rk_getf fG_147 dG_nodeInTheWay_42 (by first | exact k.gb | exact k.gpl | exact k.gna | exact k.gnd hmn | exact k.gnd hx | assumption) rfl ?_
              refine rk_iadd dG_nodeInTheWay_45 ?_
              rw [nI_add]
              refine rk_icmp_ge 71 dG_nodeInTheWay_46 (by decide) (fun q_46 => ?_) (fun q_46 => ?_)
              · refine rk_iinc dG_nodeInTheWay_71 rfl (inc1 m) (Nat.le_of_ble_eq_true rfl) ?_
                refine rk_goto 2 dG_nodeInTheWay_74 (by decide) ?_
                first
                  | exact ih (m + 1) (by omega) (by rw [← hf, fstA_n (show hitB N T L PT x t m = false by rw [ehit, b2i_0.mp q_26]; rfl)])
                  | exact ih (m + 1) (by omega) (by rw [← hf, fstA_n (show hitB N T L PT x t m = false by rw [ehit, decide_eq_false (Nat.not_lt.mpr (j1.mp q_46)), Bool.and_false]; rfl)])
                  | exact ih (m + 1) (by omega) (by rw [← hf, fstA_n (show hitB N T L PT x t m = false by rw [ehit, decide_eq_false (Nat.not_lt.mpr (j2.mp q_66)), Bool.and_false])])
              · refine rk_aload_n dG_nodeInTheWay_49 rfl ?_
                refine rk_getf fG_27 dG_nodeInTheWay_50 (by first | exact k.gb | exact k.gpl | exact k.gna | exact k.gnd hmn | exact k.gnd hx | assumption) rfl ?_
                refine rk_iload_n dG_nodeInTheWay_53 rfl ?_
                refine rk_iald dG_nodeInTheWay_54 (by first | exact k.gb | exact k.gpl | exact k.gna | exact k.gnd hmn | exact k.gnd hx | assumption) (vp_in_nI (show m < 14 by omega) (by omega)) ?_
                rw [nI_clamp (show m < 2 ^ 31 by omega), hpm, show oI (some q) = nI q from rfl]
                refine rk_iload_n dG_nodeInTheWay_55 rfl ?_
                refine rk_aload_n dG_nodeInTheWay_56 rfl ?_
                refine rk_getf fG_11 dG_nodeInTheWay_57 (by first | exact k.gb | exact k.gpl | exact k.gna | exact k.gnd hmn | exact k.gnd hx | assumption) rfl ?_
                refine rk_iload_n dG_nodeInTheWay_60 rfl ?_
                refine rk_aald rfl dG_nodeInTheWay_61 (by first | exact k.gb | exact k.gpl | exact k.gna | exact k.gnd hmn | exact k.gnd hx | assumption) (vp_in_nI (show x < 14 by omega) (by omega)) (v_nd (by omega) hqx) ?_
                refine rk_getf fG_147 dG_nodeInTheWay_62 (by first | exact k.gb | exact k.gpl | exact k.gna | exact k.gnd hmn | exact k.gnd hx | assumption) rfl ?_
                refine rk_iadd dG_nodeInTheWay_65 ?_
                rw [nI_add]
                refine rk_icmp_ge 71 dG_nodeInTheWay_66 (by decide) (fun q_66 => ?_) (fun q_66 => ?_)
                · refine rk_iinc dG_nodeInTheWay_71 rfl (inc1 m) (Nat.le_of_ble_eq_true rfl) ?_
                  refine rk_goto 2 dG_nodeInTheWay_74 (by decide) ?_
                  first
                    | exact ih (m + 1) (by omega) (by rw [← hf, fstA_n (show hitB N T L PT x t m = false by rw [ehit, b2i_0.mp q_26]; rfl)])
                    | exact ih (m + 1) (by omega) (by rw [← hf, fstA_n (show hitB N T L PT x t m = false by rw [ehit, decide_eq_false (Nat.not_lt.mpr (j1.mp q_46)), Bool.and_false]; rfl)])
                    | exact ih (m + 1) (by omega) (by rw [← hf, fstA_n (show hitB N T L PT x t m = false by rw [ehit, decide_eq_false (Nat.not_lt.mpr (j2.mp q_66)), Bool.and_false])])
                · refine rk_iload_n dG_nodeInTheWay_69 rfl ?_
                  exact rk_iret rfl dG_nodeInTheWay_70 ⟨(Nat.le_of_ble_eq_true rfl), (Nat.le_of_ble_eq_true rfl)⟩ (⟨by have hy : hitB N T L PT x t m = true := (by rw [ehit, b2i_1 q_26, decide_eq_true (Nat.not_le.mp (fun z => q_46 (j1.mpr z))), decide_eq_true (Nat.not_le.mp (fun z => q_66 (j2.mpr z)))]; rfl); rw [fstA_y hy] at hf; unfold fstO; rw [← hf, if_pos hmn]; rfl, rfl⟩)
  refine rk_Con.of [some (.ref b), some (.int (nI x)), some (.int (nI t)), none] rfl (Nat.le_of_ble_eq_true rfl) (by decide +kernel) ?_
  refine rk_iconst (v := 0) dG_nodeInTheWay_0 (by decide) ?_
  refine rk_istore_n dG_nodeInTheWay_1 (Nat.le_of_ble_eq_true rfl) ?_
  exact loop n 0 (by omega) rfl
