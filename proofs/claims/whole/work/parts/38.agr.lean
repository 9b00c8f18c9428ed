/-! a step only reads its inputs -/
theorem vI_congr {N : Nat → aN} {wt : Nat → Int32} {i j : Nat} {fd ca cb ca' cb' : Nat → Int32} (hwf : wfI N i) (hj : j < (N i).ce) (ha : ∀ a, (N i).one = some a → ∀ z, z < (N a).ce → ca z = ca' z) (hb : ∀ a, (N i).two = some a → ∀ z, z < (N a).ce → cb z = cb' z) : vI N wt i fd ca cb j = vI N wt i fd ca' cb' j := by
  obtain ⟨⟨hbd, hp, -⟩, hk⟩ := hwf
  unfold vI
  rcases hk with ⟨k, -⟩ | ⟨a, ⟨h1, -⟩, h2, hk⟩ | ⟨a, b, ⟨h1, -⟩, ⟨h2, -⟩, hk⟩
  · unfold vNode
    rw [if_pos k, if_pos k]
  · have hsrc : srcO N i = N a := by unfold srcO; rw [h1]
    have ha := ha a h1
    have hwin : winG (N i) (N a) → ((N i).kd = 1 ∨ (N i).c = (N a).c) → (N i).kd ≠ 0 ∧ (N i).kd ≠ 3 ∧ (N i).kd ≠ 4 ∧ (N i).kd ≠ 5 ∧ (N i).kd ≠ 6 ∧ (N i).kd ≠ 9 ∧ (N i).kd ≠ 10 → vNode (N i) (srcO N i) wt (ratA N i) (ratB N i) fd ca cb j = vNode (N i) (srcO N i) wt (ratA N i) (ratB N i) fd ca' cb' j := by
      rintro hG hc ⟨z0, z3, z4, z5, z6, z9, z10⟩
      unfold vNode
      rw [if_neg z0, if_neg z0, if_neg z3, if_neg z3, if_neg z4, if_neg z4, if_neg z5, if_neg z5, if_neg z6, if_neg z6, if_neg z9, if_neg z9, if_neg z10, if_neg z10, hsrc]
      unfold G_win
      refine v_win_congr rfl rfl ?_ ha
      rcases hc with hc | hc
      · exact Or.inl hc
      · right
        rw [← hc]
        exact Nat.mod_lt _ (by omega)
    rcases hk with ⟨k, hG, -⟩ | ⟨k, hG, hc, -⟩ | ⟨k, ⟨hh, hw⟩, -⟩ | ⟨k, hc, -⟩ | ⟨k, hG, hc, -⟩ | ⟨k, hs, -⟩ | ⟨k, hs, -⟩
    · exact hwin hG (Or.inl k) (by omega)
    · exact hwin hG (Or.inr hc) (by omega)
    · unfold vNode
      rw [if_neg (show ¬ (N i).kd = 0 by omega), if_neg (show ¬ (N i).kd = 0 by omega), if_pos k, if_pos k, hsrc]
      congr 1
      unfold g_con
      exact itr_congr (fun z h5 h6 s => by rw [Nat.zero_add, ha z (by omega)])
    · unfold vNode
      rw [if_neg (show ¬ (N i).kd = 0 by omega), if_neg (show ¬ (N i).kd = 0 by omega), if_neg (show ¬ (N i).kd = 3 by omega), if_neg (show ¬ (N i).kd = 3 by omega), if_neg (show ¬ (N i).kd = 4 by omega), if_neg (show ¬ (N i).kd = 4 by omega), if_neg (show ¬ (N i).kd = 5 by omega), if_neg (show ¬ (N i).kd = 5 by omega), if_pos k, if_pos k]
      exact ha j (by omega)
    · exact hwin hG (Or.inr hc) (by omega)
    · unfold vNode
      rw [if_neg (show ¬ (N i).kd = 0 by omega), if_neg (show ¬ (N i).kd = 0 by omega), if_neg (show ¬ (N i).kd = 3 by omega), if_neg (show ¬ (N i).kd = 3 by omega), if_neg (show ¬ (N i).kd = 4 by omega), if_neg (show ¬ (N i).kd = 4 by omega), if_neg (show ¬ (N i).kd = 5 by omega), if_neg (show ¬ (N i).kd = 5 by omega), if_neg (show ¬ (N i).kd = 6 by omega), if_neg (show ¬ (N i).kd = 6 by omega), if_pos k, if_pos k, ha j (by have := (shq_ce hs).2; omega)]
    · unfold vNode
      rw [if_neg (show ¬ (N i).kd = 0 by omega), if_neg (show ¬ (N i).kd = 0 by omega), if_neg (show ¬ (N i).kd = 3 by omega), if_neg (show ¬ (N i).kd = 3 by omega), if_neg (show ¬ (N i).kd = 4 by omega), if_neg (show ¬ (N i).kd = 4 by omega), if_neg (show ¬ (N i).kd = 5 by omega), if_neg (show ¬ (N i).kd = 5 by omega), if_neg (show ¬ (N i).kd = 6 by omega), if_neg (show ¬ (N i).kd = 6 by omega), if_neg (show ¬ (N i).kd = 9 by omega), if_neg (show ¬ (N i).kd = 9 by omega), if_pos k, if_pos k, ha j (by have := (shq_ce hs).2; omega)]
  · have hsrc : srcO N i = N a := by unfold srcO; rw [h1]
    have ha := ha a h1
    have hb := hb b h2
    rcases hk with ⟨k, hs1, hs2, -⟩ | ⟨k, ⟨c1, c2, c3, c4⟩, hcc, -⟩
    · unfold vNode
      rw [if_neg (show ¬ (N i).kd = 0 by omega), if_neg (show ¬ (N i).kd = 0 by omega), if_neg (show ¬ (N i).kd = 3 by omega), if_neg (show ¬ (N i).kd = 3 by omega), if_pos k, if_pos k, ha j (by have := (shq_ce hs1).2; omega), hb j (by have := (shq_ce hs2).2; omega)]
    · have q1 : (N a).ce = (N i).h * (N i).w * (N a).c := by unfold aN.ce; rw [c1, c2]
      have q2 : (N b).ce = (N i).h * (N i).w * (N b).c := by unfold aN.ce; rw [c3, c4]
      have hdiv : j / (N i).c < (N i).h * (N i).w := Nat.div_lt_of_lt_mul (by rw [Nat.mul_comm]; exact hj)
      have hmod : j % (N i).c < (N i).c := Nat.mod_lt _ (by omega)
      unfold vNode
      rw [if_neg (show ¬ (N i).kd = 0 by omega), if_neg (show ¬ (N i).kd = 0 by omega), if_neg (show ¬ (N i).kd = 3 by omega), if_neg (show ¬ (N i).kd = 3 by omega), if_neg (show ¬ (N i).kd = 4 by omega), if_neg (show ¬ (N i).kd = 4 by omega), if_pos k, if_pos k, hsrc]
      by_cases hz : j % (N i).c < (N a).c
      · rw [if_pos hz, if_pos hz, ha _ (by rw [q1]; exact ix2 hdiv hz)]
      · rw [if_neg hz, if_neg hz, hb _ (by rw [q2, show (N i).c - (N a).c = (N b).c by omega]; exact ix2 hdiv (by omega))]
def agr (f f' : Nat → Int32) : Prop := ∀ j, j < 1792 → f j = f' j
theorem runS_agr {N : Nat → aN} {n : Nat} {wt : Nat → Int32} {S R : Nat → Nat} {PT : Nat → Option Nat} {fd : Nat → Nat → Int32} (hwf : wfN N n) (hSl : ∀ j : Nat, j < n → S j ≤ j) (hK : rnK N S R PT n) {m : Nat} (hm : m < n) {f f' : Nat → Int32} (h : agr f f') : agr (runS N wt S R PT fd m f) (runS N wt S R PT fd m f') := by
  intro j hj
  unfold runS
  by_cases hr : R m = 2
  · rw [if_pos hr, if_pos hr]
    obtain ⟨⟨t, ht, htb⟩, hce, hops⟩ := hK m hm hr
    have hrl := rdr_le (R := R) hwf.inn hSl hm
    unfold stp
    by_cases hz : plN PT m ≤ j ∧ j < plN PT m + (N m).ce
    · rw [if_pos hz, if_pos hz]
      have rd : ∀ o a : Nat, PT (S a) = some o → o + (N a).ce ≤ 1792 → ∀ z, z < (N a).ce → f (plN PT (S a) + z) = f' (plN PT (S a) + z) := by
        intro o a ho hb z hz
        have : plN PT (S a) = o := by unfold plN; rw [ho]; rfl
        rw [this]
        exact h _ (by omega)
      have inner : vI N wt (rdr N S R m) (fd (rdr N S R m)) (fun z => f (plO S PT (N (rdr N S R m)).one + z)) (fun z => f (plO S PT (N (rdr N S R m)).two + z)) (j - plN PT m) = vI N wt (rdr N S R m) (fd (rdr N S R m)) (fun z => f' (plO S PT (N (rdr N S R m)).one + z)) (fun z => f' (plO S PT (N (rdr N S R m)).two + z)) (j - plN PT m) := by
        refine vI_congr (hwf _ (by omega)) (by omega) (fun a ha z hz => ?_) (fun a ha z hz => ?_)
        · obtain ⟨o, q1, q2, -⟩ := hops a (Or.inl ha)
          rw [ha]
          exact rd o a q1 q2 z hz
        · obtain ⟨o, q1, q2, -⟩ := hops a (Or.inr ha)
          rw [ha]
          exact rd o a q1 q2 z hz
      unfold vM
      cases hf : fuO N S R m with
      | none =>
        have er : rdr N S R m = m := by unfold rdr; rw [hf]
        rw [er] at inner
        exact inner
      | some c =>
        have er : rdr N S R m = c := by unfold rdr; rw [hf]
        rw [er] at inner
        dsimp only
        rw [inner]
    · rw [if_neg hz, if_neg hz]
      exact h j hj
  · rw [if_neg hr, if_neg hr]
    exact h j hj
theorem itr_agr {N : Nat → aN} {n : Nat} {wt : Nat → Int32} {S R : Nat → Nat} {PT : Nat → Option Nat} {fd : Nat → Nat → Int32} (hwf : wfN N n) (hSl : ∀ j : Nat, j < n → S j ≤ j) (hK : rnK N S R PT n) : ∀ (k i : Nat) {f f' : Nat → Int32}, i + k ≤ n → agr f f' → agr (itr (runS N wt S R PT fd) k i f) (itr (runS N wt S R PT fd) k i f') := by
  intro k
  induction k with
  | zero => intro i f f' _ h; exact h
  | succ k ih => intro i f f' hi h; exact ih (i + 1) (by omega) (runS_agr hwf hSl hK (by omega) h)
/-! THROWING NoSuchElementException: its own first link has another place in its pool than the others have -/
def nsSix : ByteArray := ⟨#[0x2a, 0x2b, 0xb7, 0x00, 0x0d, 0xb1]⟩
theorem nsSix_0 : decode nsSix 0 = .ok (.aload_n 0, 1) := by decide +kernel
theorem nsSix_1 : decode nsSix 1 = .ok (.aload_n 1, 1) := by decide +kernel
theorem nsSix_2 : decode nsSix 2 = .ok (.invokespecial 13, 3) := by decide +kernel
theorem nsSix_5 : decode nsSix 5 = .ok (.return_, 1) := by decide +kernel
def nsTl (own : String) (ic : Nat) : List Cond := [.methodLink own ic (Bundle.initS x_NS), .instantiable x_NS 6, .selects x_NS Bundle.tFill0 Bundle.tFill0, .selects x_NS Bundle.tFill Bundle.tFill,
  .lays x_NS Bundle.tN "cause" "Ljava/lang/Throwable;", .lays x_NS Bundle.tN "stackTrace" Bundle.steD, .lays x_NS Bundle.tN "suppressedExceptions" Bundle.listD, .lays x_NS Bundle.tN "detailMessage" "Ljava/lang/String;", .lays x_NS Bundle.tN "backtrace" "Ljava/lang/Object;",
  .isRef (.static Bundle.tN "UNASSIGNED_STACK" Bundle.steD), .isRef (.static Bundle.tN "SUPPRESSED_SENTINEL" Bundle.listD), .fieldLink Bundle.tN 198 Bundle.tN "backtrace" "Ljava/lang/Object;", .lays Bundle.tN Bundle.tN "backtrace" "Ljava/lang/Object;"]
def nsAt (own : String) (ic : Nat) : List Cond := Bundle.throwableAtoms ++ (Bundle.throwableSAtoms ++ (Bundle.passSAtoms x_NS "java/lang/RuntimeException" 13 nsSix ++ (Bundle.chainSAtoms "java/lang/RuntimeException" ["java/lang/Exception"] ++ nsTl own ic)))
set_option maxHeartbeats 2000000 in
theorem ns_ctor {p : Program} {l : Launch} {e : Env} {R : Room} {s : State} {m₀ : MethodId} {args : Array Value} {below : List Frame} {meth : Method} {c : Code} {U0 : State} {locs : List Loc} {cells slots : Nat}
    (X : Stand p l e R s m₀ args below meth c U0 locs cells slots) (hexec : p.tables.exec = Jvm.exec) (htr : e.platform.stackTraces = false) {own : String} {ic : Nat} (hown : s.vm.findClass own = some m₀.cls)
    (h : ∀ w ∈ nsAt own ic, w.before args s = true) (hlocs : ∀ x ∈ locs, ∀ cell, s.heap[x.base]? = some cell → cell.vm.isStatics = false)
    {a : Addr} {cX : ClassId} {kX : Class} (hfX : s.vm.findClass x_NS = some cX) (hkX : s.vm.classes[cX]? = some kX) (hcell : U0.heap[a]? = some (freshCell cX kX)) (hnew : s.heap.size ≤ a) {msg : Value} (hmsg : msg.isRef = true)
    {g : JFrame} (hg : g.method = m₀) (hsize : g.locals.size = c.maxLocals) (hlocked : g.locked = none) (hentered : g.entered = []) {rest : List Value} (hstack : g.stack = msg :: .ref a :: .ref a :: rest)
    (hd6 : decode c.code g.pc = .ok (.invokespecial ic, 3)) (hd9 : decode c.code (g.pc + 3) = .ok (.athrow, 1)) (hout : ∀ x ∈ c.exceptionTable.toList, covers x (g.pc + 3) = false)
    (hRf : 5 < R.frames) (hRl : 2 * g.monitorRoom + ((Value.ref a :: rest).map fun v => v.category).sum + (13 * 3 + 42) ≤ R.locals) (hlocks : meth.locks = false) :
    ∃ V : State, Steps p.tables e below (U0.setTop g) V ∧ V.status = .running ∧ Ended V below (.threw a) ∧ s.WarmedH V.vm ∧ s.sameButNew ({ V with vm := s.vm } : State) locs cells slots ∧
      ∃ ce : Cell, V.heap[a]? = some ce ∧ ce.vm = .none ∧ s.vm.findClass x_NS = some ce.cls := by
  have howns : e.platform.frameOwnsMonitors = true := by rw [X.admits.platform]
  have hfin : e.platform.finalization = false := by rw [X.admits.platform]
  have hpl : e.platform.magicAccessors = ({} : Platform).magicAccessors := by rw [X.admits.platform]
  have hA : ∀ w ∈ Bundle.throwableAtoms, w.before args s = true := fun w q => h w (List.mem_append_left _ q)
  have hB : ∀ w ∈ Bundle.throwableSAtoms, w.before args s = true := fun w q => h w (List.mem_append_right _ (List.mem_append_left _ q))
  have hC : ∀ w ∈ Bundle.passSAtoms x_NS "java/lang/RuntimeException" 13 nsSix, w.before args s = true := fun w q => h w (List.mem_append_right _ (List.mem_append_right _ (List.mem_append_left _ q)))
  have hD : ∀ w ∈ Bundle.chainSAtoms "java/lang/RuntimeException" ["java/lang/Exception"], w.before args s = true := fun w q => h w (List.mem_append_right _ (List.mem_append_right _ (List.mem_append_right _ (List.mem_append_left _ q))))
  have hT : ∀ w ∈ nsTl own ic, w.holds args s none s [] = true := fun w q => h w (List.mem_append_right _ (List.mem_append_right _ (List.mem_append_right _ (List.mem_append_right _ q))))
  obtain ⟨T, Z0, L, -, Y⟩ := ThrowableC.of_atoms (args := args) howns hfin hpl hA
  obtain ⟨Z, M, LZ, LM, hnZ⟩ := Init0T.ofS_atoms (args := args) hpl L Y hB
  obtain ⟨P1, L1, hm1, hs1⟩ := PassC.ofS_atoms (args := args) (s := s) hpl (X := x_NS) (Y := "java/lang/RuntimeException") (by decide +kernel) ⟨by decide, by decide⟩ nsSix_0 nsSix_1 nsSix_2 nsSix_5 hC
  obtain ⟨P2, Ps, hlen, L2, hL, hm2, hk2, hks⟩ := Bundle.chainS (args := args) hpl hnZ ["java/lang/Exception"] "java/lang/RuntimeException" (by decide +kernel) (by decide +kernel) hD
  have hfound : s.vm.findClass x_NS = some P1.m.cls := findClass_of_methodNamed hm1
  cases Option.some.inj (hfX.symm.trans hfound)
  have hsup : P1.sup = P2.m := Option.some.inj (hs1.symm.trans hm2)
  obtain ⟨c1, kX', hc1, hk, hord, -, -, hn6⟩ := Cond.instantiable_spec (hT (.instantiable x_NS 6) (by simp [nsTl]))
  cases Option.some.inj (hc1.symm.trans hfound)
  cases Option.some.inj (hkX.symm.trans hk)
  have hsel : ∀ {N : MethodName} {mm : MethodId}, (Cond.selects x_NS N N).holds args s none s [] = true → s.methodNamed? N = some mm → N.cls ≠ "java/lang/invoke/MethodHandle" ∧ N.cls ≠ "java/lang/invoke/VarHandle" → selectMethod e.platform s.vm P1.m.cls mm = .method mm := by
    intro N mm hq hn hne
    obtain ⟨c2, r2, m2, q1, q2, q3, q4, -⟩ := Cond.selects_spec hq
    cases Option.some.inj (q1.symm.trans hfound)
    cases Option.some.inj (q2.symm.trans (State.methodFound?_of_named hn hne))
    cases Option.some.inj (q3.symm.trans hn)
    rw [Launch.admits_selectMethod X.admits]; exact q4
  have hsel0 := hsel (hT (.selects x_NS Bundle.tFill0 Bundle.tFill0) (by simp [nsTl])) Y.fill0 (by decide)
  have hselF := hsel (hT (.selects x_NS Bundle.tFill Bundle.tFill) (by simp [nsTl])) Y.fill (by decide)
  obtain ⟨cellS0, hcS0, hiss⟩ := Y.statics
  obtain ⟨u0, hu0⟩ := Cond.staticRefV Y.unassigned L.unassignedStatic L.statics hcS0 hiss (hT (.isRef (.static Bundle.tN "UNASSIGNED_STACK" Bundle.steD)) (by simp [nsTl]))
  obtain ⟨sen, hsen⟩ := Cond.staticRefV Y.sentinel L.sentinelStatic L.statics hcS0 hiss (hT (.isRef (.static Bundle.tN "SUPPRESSED_SENTINEL" Bundle.listD)) (by simp [nsTl]))
  obtain ⟨j1, j2, fB, j3, j4, j5, hsB, -, hnB, htB, hffB⟩ := Cond.ownField (t := .object "java/lang/Object") Y.found L.cls (by decide +kernel) (hT (.fieldLink Bundle.tN 198 Bundle.tN "backtrace" "Ljava/lang/Object;") (by simp [nsTl])) (hT (.lays Bundle.tN Bundle.tN "backtrace" "Ljava/lang/Object;") (by simp [nsTl])) e.platform hpl
  obtain ⟨cellS, hcS', heS, -, hkeep⟩ := X.same.2.2.2.2.2 T.aS cellS0 hcS0
  have hcellS : U0.heap[T.aS]? = some cellS := hcS'
  have hnot : ∀ i, (⟨T.aS, i⟩ : Loc) ∉ locs := fun i hm => by
    have q := hlocs _ hm cellS0 hcS0
    rw [hiss] at q; cases q
  have hkn : cellS.vm ≠ .unknown := by
    rw [heS]; intro hu
    rw [show cellS0.vm = .unknown from hu] at hiss
    cases hiss
  have hneS : T.aS ≠ a := Nat.ne_of_lt (Nat.lt_of_lt_of_le (Array.getElem?_eq_some_iff.mp hcS0).1 hnew)
  obtain ⟨iM, hffM⟩ := Y.msg
  obtain ⟨tyC, dC, hdC, hnC⟩ := Cond.laysAt hfound hk Y.cause (hT (.lays x_NS Bundle.tN "cause" "Ljava/lang/Throwable;") (by simp [nsTl]))
  obtain ⟨tyS, dS, hdS, hnS⟩ := Cond.laysAt hfound hk Y.stack (hT (.lays x_NS Bundle.tN "stackTrace" Bundle.steD) (by simp [nsTl]))
  obtain ⟨tyP, dP, hdP, hnP⟩ := Cond.laysAt hfound hk Y.supp (hT (.lays x_NS Bundle.tN "suppressedExceptions" Bundle.listD) (by simp [nsTl]))
  obtain ⟨tyM, -, -, -⟩ := Cond.laysAt hfound hk hffM (hT (.lays x_NS Bundle.tN "detailMessage" "Ljava/lang/String;") (by simp [nsTl]))
  obtain ⟨tyB, dB, hdB, hnB'⟩ := Cond.laysAt hfound hk hffB (hT (.lays x_NS Bundle.tN "backtrace" "Ljava/lang/Object;") (by simp [nsTl]))
  have bC := Cond.laysApart hdB hdC hnB' hnC (by rw [hnB, Y.causeName]; decide)
  have bS := Cond.laysApart hdB hdS hnB' hnS (by rw [hnB, Y.stackName]; decide)
  have bP := Cond.laysApart hdB hdP hnB' hnP (by rw [hnB, Y.suppName]; decide)
  have hskip : SkipFacts T e.platform s (fun u => u) u0 ((preparedCellV T.toThrowableT (freshCell P1.m.cls kX) a u0 sen).withEntry U0.cur) :=
    ⟨{ ci198 := j1, i198 := j2, fBack := fB }, ⟨j3, j4, j5, hsB⟩, by
      have q := fresh_default (c := P1.m.cls) tyB
      rw [htB] at q
      simpa [preparedCellV, Cell.setSlot, Cell.withEntry, Array.getElem?_setIfInBounds, bC, bS, bP, bC.symm, bS.symm, bP.symm, defaultValue] using q, fun _ _ => rfl⟩
  obtain ⟨tm, methC, cdC, kC, vm₁, hnCt, -, -, -, -, -, -, -, hW₁, st1⟩ := Steps.initColdS (tb := p.tables) (e := e) (below := below) (s := s) (U := U0) X.here hexec X.warmed hpl hown (t := Bundle.initS x_NS) rfl rfl ⟨by decide, by decide⟩
    (hT (.methodLink own ic (Bundle.initS x_NS)) (by simp [nsTl])) (hC (.instanceMethod (Bundle.initS x_NS)) (by simp [Bundle.passSAtoms])) (bytes := nsSix) (maxL := 2) (hC (.code (Bundle.initS x_NS) nsSix 2 none) (by simp [Bundle.passSAtoms]))
    (f := g) hg (a := a) (msg := msg) (rest := .ref a :: rest) hstack hd6
  cases Option.some.inj (hnCt.symm.trans hm1)
  have X₁ := X.noted hW₁
  obtain ⟨vm₂, X₂, st2⟩ := X₁.ctorMessageOffV hexec (g := { g with stack := .ref a :: rest }) hg hsize T L Z LZ M LM (P1 :: P2 :: Ps)
    (fun P hP => by
      rcases List.mem_cons.mp hP with rfl | hP
      · exact L1
      · rcases List.mem_cons.mp hP with rfl | hP
        · exact L2
        · exact hL P hP) ⟨hsup, hk2, hks⟩ (u0 := u0) (sen := sen) (self := a) hmsg (cell := freshCell P1.m.cls kX) (cellS := cellS)
    hcell (fun _ => by simp) (by simp) rfl rfl hsel0 hselF hcellS hneS hkn (by rw [hkeep _ (hnot _)]; exact hu0) (by rw [hkeep _ (hnot _)]; exact hsen)
    (Takes.of_laid hk hord tyC (by rw [Y.causeType]; rfl)) (Takes.of_laid hk hord tyS (by rw [Y.stackType]; exact fits_refV_array _ u0)) (Takes.of_laid hk hord tyP (by rw [Y.suppType]; exact fits_refV_object _ sen))
    (Takes.of_laid hk hord tyM (by rw [Y.msgType]; exact fits_refV_object _ ⟨msg, hmsg⟩)) Y.objLocals hskip htr [] hd6
    (by simp only [List.length_cons, hlen, List.length_nil]; omega) (by simp only [List.length_cons, hlen, List.length_nil]; exact hRl)
  obtain ⟨hwalk, hrun, hended, hWU, hsame⟩ := X₂.athrowLeaves hexec (g := { g with stack := .ref a :: rest, pc := g.pc + 3 }) hg hlocked hentered hout (a := a) (rest := rest) rfl hd9
  have hlt : a < ((U0.setVm vm₁).setVm vm₂).heap.size := (Array.getElem?_eq_some_iff.mp hcell).1
  refine ⟨_, st1 _ (fun acts => ?_), hrun, hended, hWU, hsame.weaken (fun y hy hlt' => ?_) (Nat.le_refl _) (Nat.le_refl _), _, heapAt_setCell_self (s := (U0.setVm vm₁).setVm vm₂) (plainBareV T.toThrowableT (freshCell P1.m.cls kX) a u0 sen msg) hlt, rfl, hfound⟩
  · rw [doInvoke_state]
    exact st2 _ hwalk
  · rcases List.mem_append.mp hy with h1 | h1
    · exact h1
    · exfalso
      have hb : y.base = a := by
        simp only [List.mem_cons, List.not_mem_nil, or_false] at h1
        rcases h1 with rfl | rfl | rfl | rfl | rfl <;> rfl
      rw [hb] at hlt'
      exact Nat.not_lt.mpr hnew hlt'
theorem rk_throwN {M : rk_M} {B : rk_B} {P : rk_P} {pc : Nat} {lv : List (Option Value)} {st : List Value} {h : rk_H} {u : rk_U} {i1 i2 i3 : Nat} {tx : String} (w1 : Cond.classLink M.1.cls i1 x_NS ∈ rk_tbl) (w3 : Cond.initialized x_NS ∈ rk_tbl) (w4 : (M.1.cls, i2, tx) ∈ rk_str)
    (w8 : ∀ w ∈ (nsAt M.1.cls i3).filter vx_no, w ∈ rk_tbl ∨ w ∈ rk_nst) (w9 : ∀ w ∈ Cond.classLink M.1.cls i1 x_NS :: Cond.initialized x_NS :: (nsAt M.1.cls i3).filter vx_no, vx_ot w = true) (hh : M.2.2.2.2 = [])
    (d0 : decode M.2.1 pc = .ok (.new i1, 3)) (d3 : decode M.2.1 (pc + 3) = .ok (.dup, 1)) (d4 : decode M.2.1 (pc + 4) = .ok (.ldc i2, 2)) (d6 : decode M.2.1 (pc + 6) = .ok (.invokespecial i3, 3)) (d9 : decode M.2.1 (pc + 9) = .ok (.athrow, 1)) (hf6 : 6 ≤ B.1) (hst : (st.map fun v => v.category).sum + 82 ≤ B.2.1) (h1 : u.1 + 1 ≤ B.2.2.1) (h6 : u.2 + 6 ≤ B.2.2.2) (hP : P (.inr x_NS) h) : rk_Run M B P pc lv st h u := by
  intro l p e R s m args below meth c G H locs ls C hR hS hf hl T hT X
  have hts := C.2.2.2.2.2.2.1
  have hK := C.2.2.2.2.2.2.2.1
  have hfr := C.2.2.2.2.2.2.2.2.2.1
  have hlo := C.2.2.2.2.2.2.2.2.2.2.1
  have hcl := C.2.2.2.2.2.2.2.2.2.2.2.1
  have hsl := C.2.2.2.2.2.2.2.2.2.2.2.2.1
  have hown := C.2.2.2.2.2.1
  have hsize : ls.size = c.maxLocals := by rw [C.2.2.1]; exact hl.1
  have htab := C.2.2.2.2.2.2.2.2.1
  unfold rk_hh at htab
  rw [hh] at htab
  obtain ⟨ad, hstr⟩ := hK.2.2.1 _ w4
  have htr : e.platform.stackTraces = false := (show e.platform.stackTraces = l.stackTraces by rw [X.admits.platform]).trans C.2.2.2.2.2.2.2.2.2.2.2.2.2.2
  have Y := vx_rebase X (R' := { frames := R.frames, locals := R.locals, cells := 1, slots := 6 }) (Nat.le_refl _) (Nat.le_refl _) (Nat.le_trans h1 hcl) (Nat.le_trans h6 hsl)
  obtain ⟨s', hA⟩ : ∃ z, z = (T.setVm s.vm).setFrames (.invoking m args :: below) := ⟨_, rfl⟩
  rw [← hA] at Y
  have hvm : s'.vm = s.vm := by rw [hA]; rfl
  have hhp : s'.heap = H := by rw [hA]; exact hT
  have hW0 : s.WarmedH s'.vm := by rw [hvm]; exact State.WarmedH.refl s
  have hat : ∀ w ∈ (nsAt M.1.cls i3).filter vx_no, w.before args s = true := fun w hw => by
    rcases w8 w hw with q | q
    · exact hts w q
    · exact va_Nw.use (rk_nst_on w q) (hK.2.2.2.2.1 w q)
  have hat' : ∀ w ∈ (nsAt M.1.cls i3).filter vx_no, w.before args s' = true := fun w hw => vx_ot_at hW0 hvm.symm (w9 w (List.mem_cons_of_mem _ (List.mem_cons_of_mem _ hw))) (hat w hw)
  have hk' : (Cond.classLink M.1.cls i1 x_NS).before args s' = true := vx_ot_at hW0 hvm.symm (w9 _ List.mem_cons_self) (hts _ w1)
  have hini' : (Cond.initialized x_NS).before args s' = true := vx_ot_at hW0 hvm.symm (w9 _ (List.mem_cons_of_mem _ List.mem_cons_self)) (hts _ w3)
  have hzk : ∀ x : Nat, x < s.heap.size → ¬ G.1 ≤ x → H[x]? = s.heap[x]? := fun q _ hq => hS.2 q (Nat.not_le.mp hq)
  have hU' : vx_Zq Bundle.tN "UNASSIGNED_STACK" Bundle.steD (fun x => G.1 ≤ x) s' s'.heap := by rw [hhp]; exact vx_Zq.moved hW0.alike ((hK.2.2.2.1 ("java/lang/Throwable", "UNASSIGNED_STACK", "[Ljava/lang/StackTraceElement;") (by simp [rk_sta])).kept hzk)
  have hN' : vx_Zq Bundle.tN "SUPPRESSED_SENTINEL" Bundle.listD (fun x => G.1 ≤ x) s' s'.heap := by rw [hhp]; exact vx_Zq.moved hW0.alike ((hK.2.2.2.1 ("java/lang/Throwable", "SUPPRESSED_SENTINEL", "Ljava/util/List;") (by simp [rk_sta])).kept hzk)
  have hall : ∀ w ∈ nsAt M.1.cls i3, w.before args s' = true := vx_own hat' (vx_isRefq hU'.1) (vx_isRefq hN'.1) hU'.2.word hN'.2.word
  have hown' : s'.vm.findClass M.1.cls = some m.cls := by rw [hvm]; exact hown
  have hins : (Cond.instantiable x_NS 6).before args s' = true := hall _ (List.mem_append_right _ (List.mem_append_right _ (List.mem_append_right _ (List.mem_append_right _ (by simp [nsTl])))))
  obtain ⟨vm₁, cX, kX, hfX, hkX, -, -, X₁, st1⟩ := Y.newCold C.1 (own := M.1.cls) (C := x_NS) (index := i1) (n := 6) hown' hk' hins hini' (g := F0 m pc ls st) rfl (by rw [C.2.1]; exact d0) (Nat.le_refl _) (Nat.le_refl _)
  generalize hT1 : (T.setVm vm₁).pushCell { cls := cX, slots := kX.instanceTypes.map defaultValue, vm := .none } = T1 at X₁ st1
  have hcat : (Value.ref T.heap.size).category = 1 := rfl
  have hcellA : T1.heap[T.heap.size]? = some (freshCell cX kX) := by rw [← hT1]; exact State.heap_pushCell_size _ _
  have d3' : decode c.code (pc + 3) = .ok (.dup, 1) := by rw [C.2.1]; exact d3
  have d4' : decode c.code (pc + 4) = .ok (.ldc i2, 2) := by rw [C.2.1]; exact d4
  have hstr' : vk_R M.1.cls i2 tx ad s' := vk_R.warm hW0 hstr
  obtain ⟨V, hsteps, hrun, hend, hW, hsame, ce, hce, hvmN, hclN⟩ := ns_ctor X₁ C.1 htr (own := M.1.cls) (ic := i3) hown' hall (fun x hx => nomatch hx) hfX hkX hcellA (by rw [hhp, hT]; exact Nat.le_refl _) (msg := .ref ad) rfl
    (g := { method := m, pc := pc + 6, locals := ls, stack := .ref ad :: .ref T.heap.size :: .ref T.heap.size :: st, locked := none }) rfl hsize rfl rfl (rest := st) rfl
    (by rw [C.2.1]; exact d6) (by rw [C.2.1]; exact d9) (fun y hy => by rw [htab] at hy; cases hy) (by show 5 < R.frames; omega) (by
      have e0 : JFrame.monitorRoom { method := m, pc := pc + 6, locals := ls, stack := .ref ad :: .ref T.heap.size :: .ref T.heap.size :: st, locked := none } = 0 := rfl
      rw [e0]
      simp only [List.map_cons, List.sum_cons, hcat]
      show _ ≤ R.locals
      omega) C.2.2.2.2.1
  obtain ⟨f1, f2⟩ := vx_frame hsame
  rw [hhp] at f1 f2
  have f2' : ∀ q : Nat, q < H.size → V.heap[q]? = H[q]? := fun q hq => f2 q hq (fun z hz => nomatch hz)
  have hWs : s.WarmedH V.vm := State.WarmedH.trans hW0 hW
  have hall2 : s.sameButNew ({ V with vm := s.vm } : State) locs B.2.2.1 B.2.2.2 := by
    subst hA
    obtain ⟨e1, e2⟩ := hsame
    rw [State.setFrames_setFrames] at e1
    have q2 : (T.setVm s.vm).sameButNew ({ V with vm := s.vm } : State) [] (0 + 1) (0 + 6) := ⟨e1, e2⟩
    have q3 := X.same.trans q2
    rw [List.append_nil] at q3
    exact q3.mono h1 h6
  refine ⟨V, ?_, .threw T.heap.size, hrun, hend, ⟨⟨.inr x_NS, h, ⟨T.heap.size, ce, rfl, hce, hvmN, by rw [hWs.alike.findClass, ← hvm]; exact hclN⟩, hP, hR.kept f2'⟩, ⟨⟨Nat.le_trans hS.1.1 f1, Nat.le_trans hS.1.2 f1⟩, fun z hz => by rw [f2' z (Nat.lt_of_lt_of_le hz hS.1.1)]; exact hS.2 z hz⟩⟩, locs, ⟨hWs, hall2⟩, hf⟩
  refine st1 _ ?_
  show Steps p.tables e below (T1.setTop { method := m, pc := pc + 3, locals := ls, stack := .ref T.heap.size :: st, locked := none }) _
  jvm_step X₁.here [X₁.here.top, C.1, d3', Value.category]
  exact X₁.ldcString C.1 (own := M.1.cls) (text := tx) (index := i2) (a := ad) hown' hstr'.1 hstr'.2
    (g := { method := m, pc := pc + 4, locals := ls, stack := .ref T.heap.size :: .ref T.heap.size :: st, locked := none }) rfl d4' _ hsteps
set_option maxRecDepth 20000 in
theorem ns_w8 : ∀ w ∈ (nsAt "TensorForge" 255).filter vx_no, w ∈ rk_tbl ∨ w ∈ rk_nst := by decide +kernel
set_option maxRecDepth 20000 in
theorem ns_w9 : ∀ w ∈ Cond.classLink "TensorForge" 251 x_NS :: Cond.initialized x_NS :: (nsAt "TensorForge" 255).filter vx_no, vx_ot w = true := by decide +kernel
/-! TensorForge: run, arena, result, about, peak -/
theorem c_T_requirePresent (x : Int32) (h : rk_H) : rk_Con mT_requirePresent (6, 82, 1, 6) [.int x] h (rk_If (¬ x = 0) x_NS h) := by
  refine rk_Con.of [some (.int x)] rfl (Nat.le_of_ble_eq_true rfl) (by decide +kernel) ?_
  refine rk_iload_n dT_requirePresent_0 rfl ?_
  refine rk_if_ne 14 dT_requirePresent_1 (by decide) (fun q => ?_) (fun q => ?_)
  · exact rk_ret rfl dT_requirePresent_14 ⟨(Nat.le_of_ble_eq_true rfl), (Nat.le_of_ble_eq_true rfl)⟩ (by simp_all [rk_If])
  · exact rk_throwN (tx := "no such cell, step or place") (in_t4 109 rfl rfl) (in_t1 18 rfl rfl) (by decide +kernel) ns_w8 ns_w9 rfl dT_requirePresent_4 dT_requirePresent_7 dT_requirePresent_8 dT_requirePresent_10 dT_requirePresent_13 (Nat.le_of_ble_eq_true rfl) (Nat.le_of_ble_eq_true rfl) (Nat.le_of_ble_eq_true rfl) (Nat.le_of_ble_eq_true rfl) (by simp_all [rk_If])
theorem c_T_run (C : cT) (s : aS) (x : Int32) (h : rk_H) (k : cOK h C s) (ok : aOK s) : rk_Con mT_run (7, 126, 3, 18) [.ref C.a, .int x] h (cPost h C s.n (opRun s x) (exL [x_IA, x_IS, x_UO])) := by
  have e1 := k.1.1
  obtain ⟨X0, hX0, g1, -⟩ := k.1.2.2.1.1.1
  refine rk_Con.of [some (.ref C.a), some (.int x)] rfl (Nat.le_of_ble_eq_true rfl) (by decide +kernel) ?_
  by_cases hx : x < 0
  · have eo : opRun s x = (1, none, s) := by
      unfold opRun
      cases s.out with
      | none => dsimp only; rw [if_pos hx]
      | some o => dsimp only; rw [if_pos hx]
    refine rk_iload_n dT_run_0 rfl ?_
    refine rk_if_lt 8 dT_run_1 (by decide) (fun q_1 => ?_) (fun q_1 => ?_)
    · refine rk_iconst (v := 0) dT_run_8 (by decide) ?_
      refine rk_csI (c_T_require _ h) cT_125 dT_run_9 rfl lT_require (Nat.le_of_ble_eq_true rfl) (Nat.le_of_ble_eq_true rfl) (Nat.le_of_ble_eq_true rfl) (Nat.le_of_ble_eq_true rfl) rfl ⟨(Nat.le_of_ble_eq_true rfl), (Nat.le_of_ble_eq_true rfl)⟩ (fun g_9 => (by rw [eo]; exact cPost.same k rfl rfl)) (fun g_9 => ?_)
      exact absurd rfl g_9
    · exact absurd hx q_1
  · by_cases hc : s.comp = true
    · obtain ⟨o, X, ho, hg, hp⟩ := k.2.2.2 hc
      have hon := ok.2.1 o ho
      have hn := ok.1.1
      obtain ⟨hK, hpk⟩ := pl_rnK ok.1.2.1 hn hon
      have hSl := stS_le ok.1.2.1.inn
      have hso := hSl o hon
      have e4 := hg.1
      by_cases hlt : x < nI (pP s.N s.n o).2
      · have eo : opRun s x = (3, none, s) := by
          unfold opRun
          rw [ho]
          dsimp only
          rw [if_neg hx, hc, if_neg (by decide), if_pos hlt]
        refine rk_iload_n dT_run_0 rfl ?_
        refine rk_if_lt 8 dT_run_1 (by decide) (fun q_1 => ?_) (fun q_1 => ?_)
        · exact absurd q_1 hx
        · refine rk_iconst (v := 1) dT_run_4 (by decide) ?_
          refine rk_goto 9 dT_run_5 (by decide) ?_
          refine rk_csI (c_T_require _ h) cT_125 dT_run_9 rfl lT_require (Nat.le_of_ble_eq_true rfl) (Nat.le_of_ble_eq_true rfl) (Nat.le_of_ble_eq_true rfl) (Nat.le_of_ble_eq_true rfl) rfl ⟨(Nat.le_of_ble_eq_true rfl), (Nat.le_of_ble_eq_true rfl)⟩ (fun g_9 => absurd (by decide) g_9) (fun g_9 => ?_)
          refine rk_aload_n dT_run_12 rfl ?_
          refine rk_cvI (c_T_requireCompiled C.a (tR_of C s.ws s.out s.comp) h e1) cT_163 dT_run_13 rfl lT_requireCompiled (Nat.le_of_ble_eq_true rfl) (Nat.le_of_ble_eq_true rfl) (Nat.le_of_ble_eq_true rfl) (Nat.le_of_ble_eq_true rfl) (by first | exact e1 | exact e4 | assumption) rfl ⟨(Nat.le_of_ble_eq_true rfl), (Nat.le_of_ble_eq_true rfl)⟩ (fun g_13 => absurd (show ¬ b2i s.comp = 0 by rw [hc]; decide) g_13) (fun g_13 => ?_)
          refine rk_iload_n dT_run_16 rfl ?_
          refine rk_aload_n dT_run_17 rfl ?_
          refine rk_getf fT_12 dT_run_18 (by first | exact e1 | exact e4 | assumption) rfl ?_
          refine rk_getf fT_166 dT_run_21 (by first | exact e1 | exact e4 | assumption) rfl ?_
          rw [hp.2.2.2.2]
          refine rk_icmp_ge 37 dT_run_24 (by decide) (fun q_24 => ?_) (fun q_24 => ?_)
          · exact absurd hlt (Int32.not_lt.mpr q_24)
          · exact rk_throw tmT_run_27 rfl dT_run_27 dT_run_30 dT_run_31 dT_run_33 dT_run_36 (Nat.le_of_ble_eq_true rfl) (Nat.le_of_ble_eq_true rfl) (Nat.le_of_ble_eq_true rfl) (Nat.le_of_ble_eq_true rfl) (by rw [eo]; exact cPost.same k rfl rfl)
      · have cp := c_M_perform C.mb C.gb C.M C.A X s.n s.N C.na C.ad C.fe (stS s.N) (pR s.N s.n o) (pP s.N s.n o).1 o 0 s.fd s.wt h k.1.2.1 k.1.2.2.1 hg ok.1.2.1 hp.1.2.1 hSl hp.1.2.2 (pR_le s.N s.n o) hp.2.2.1 hK k.1.2.2.2 hon (pR_o s.N s.n o)
        have e5 := k.1.2.1.1.1
        rw [ho] at e1
        have eo : opRun s x = (0, some (.int (itr (fun i q => q + arF s o (plN (pP s.N s.n o).1 (pO s.N o) + i)) (s.N (pO s.N o)).ce 0 0)), s.wrun (pP s.N s.n o).2 (arF s o) (s.N (pO s.N o)).ce (fun j => arF s o (plN (pP s.N s.n o).1 (pO s.N o) + j)) (s.N (pO s.N o)).sc) := by
          unfold opRun
          rw [ho]
          dsimp only
          rw [if_neg hx, hc, if_neg (by decide), if_neg hlt]
        obtain ⟨⟨t, ht, htb⟩, -, -⟩ := hK (pO s.N o) (show stS s.N o < s.n by omega) (pR_o s.N s.n o)
        have epn : plN (pP s.N s.n o).1 (pO s.N o) = t := by unfold plN; rw [ht]; rfl
        refine rk_iload_n dT_run_0 rfl ?_
        refine rk_if_lt 8 dT_run_1 (by decide) (fun q_1 => ?_) (fun q_1 => ?_)
        · exact absurd q_1 hx
        · refine rk_iconst (v := 1) dT_run_4 (by decide) ?_
          refine rk_goto 9 dT_run_5 (by decide) ?_
          refine rk_csI (c_T_require _ h) cT_125 dT_run_9 rfl lT_require (Nat.le_of_ble_eq_true rfl) (Nat.le_of_ble_eq_true rfl) (Nat.le_of_ble_eq_true rfl) (Nat.le_of_ble_eq_true rfl) rfl ⟨(Nat.le_of_ble_eq_true rfl), (Nat.le_of_ble_eq_true rfl)⟩ (fun g_9 => absurd (by decide) g_9) (fun g_9 => ?_)
          refine rk_aload_n dT_run_12 rfl ?_
          refine rk_cvI (c_T_requireCompiled C.a (tR_of C s.ws (some o) s.comp) h e1) cT_163 dT_run_13 rfl lT_requireCompiled (Nat.le_of_ble_eq_true rfl) (Nat.le_of_ble_eq_true rfl) (Nat.le_of_ble_eq_true rfl) (Nat.le_of_ble_eq_true rfl) (by first | exact e1 | exact e4 | exact e5 | assumption) rfl ⟨(Nat.le_of_ble_eq_true rfl), (Nat.le_of_ble_eq_true rfl)⟩ (fun g_13 => absurd (show ¬ b2i s.comp = 0 by rw [hc]; decide) g_13) (fun g_13 => ?_)
          refine rk_iload_n dT_run_16 rfl ?_
          refine rk_aload_n dT_run_17 rfl ?_
          refine rk_getf fT_12 dT_run_18 (by first | exact e1 | exact e4 | exact e5 | assumption) rfl ?_
          refine rk_getf fT_166 dT_run_21 (by first | exact e1 | exact e4 | exact e5 | assumption) rfl ?_
          rw [hp.2.2.2.2]
          refine rk_icmp_ge 37 dT_run_24 (by decide) (fun q_24 => ?_) (fun q_24 => ?_)
          · refine rk_aload_n dT_run_37 rfl ?_
            refine rk_getf fT_19 dT_run_38 (by first | exact e1 | exact e4 | exact e5 | assumption) rfl ?_
            refine rk_aload_n dT_run_41 rfl ?_
            refine rk_getf fT_12 dT_run_42 (by first | exact e1 | exact e4 | exact e5 | assumption) rfl ?_
            refine rk_aload_n dT_run_45 rfl ?_
            refine rk_getf fT_27 dT_run_46 (by first | exact e1 | exact e4 | exact e5 | assumption) rfl ?_
            refine rk_cvG (cp) cT_174 dT_run_49 rfl lM_perform (Nat.le_of_ble_eq_true rfl) (Nat.le_of_ble_eq_true rfl) (Nat.le_of_ble_eq_true rfl) (Nat.le_of_ble_eq_true rfl) (by first | exact e1 | exact e4 | exact e5 | assumption) ?_
            rintro r_49 h_49 ⟨f0, w, p, q, rfl, rfl⟩
            refine rk_nxv ?_
            have hag := itr_agr (wt := s.wt) (fd := s.fd) ok.1.2.1 hSl hK (pO s.N o + 1) 0 (f := stp 0 1792 (fun _ => 0) f0) (f' := fun _ => 0) (show 0 + (stS s.N o + 1) ≤ s.n by omega) (fun j hj => by show (if 0 ≤ j ∧ j < 0 + 1792 then _ else _) = _; rw [if_pos (by omega)])
            have hag2 : ∀ j, j < 1792 → itr (runS s.N s.wt (stS s.N) (pR s.N s.n o) (pP s.N s.n o).1 s.fd) (stS s.N o + 1) 0 (stp 0 1792 (fun _ => 0) f0) j = arF s o j := hag
            generalize itr (runS s.N s.wt (stS s.N) (pR s.N s.n o) (pP s.N s.n o).1 s.fd) (stS s.N o + 1) 0 (stp 0 1792 (fun _ => 0) f0) = F at hag2 ⊢
            have hsum : itr (fun i q => q + F (plN (pP s.N s.n o).1 (stS s.N o) + i)) (s.N (stS s.N o)).ce 0 0 = itr (fun i q => q + arF s o (plN (pP s.N s.n o).1 (pO s.N o) + i)) (s.N (pO s.N o)).ce 0 0 := itr_congr (fun z h5 h6 q => by rw [hag2 _ (by show plN (pP s.N s.n o).1 (pO s.N o) + z < 1792; rw [epn]; have : z < (s.N (pO s.N o)).ce := (by show z < (s.N (stS s.N o)).ce; omega); omega)]; rfl)
            exact rk_iret rfl dT_run_52 ⟨(Nat.le_of_ble_eq_true rfl), (Nat.le_of_ble_eq_true rfl)⟩ (by rw [eo]; refine ⟨⟨_, k.mr w p q F X.pk _ _ _ ok.1.2.1.bd ⟨⟨rfl, rfl⟩, rfl, rfl⟩ ⟨⟨hp.2.2.2.2, hpk, fun j hj => hag2 j (by have : j < (pP s.N s.n o).2 := hj; omega)⟩, ⟨rfl, rfl, (ok.1.2.1 _ (show stS s.N o < s.n by omega)).1.1.2.1⟩, t, congrArg nI epn, htb, fun j hj => (by show F (t + j) = arF s o (plN (pP s.N s.n o).1 (pO s.N o) + j); rw [epn]; exact hag2 _ (by have : j < (s.N (pO s.N o)).ce := hj; omega))⟩, (frm.mv.up2 own.mb).wM rfl rfl⟩, by rw [hsum]; rfl⟩)
          · exact absurd (Int32.not_lt.mp hlt) q_24
    · have hcf : s.comp = false := by cases hz : s.comp with | true => exact absurd hz hc | false => rfl
      have eo : opRun s x = (2, none, s) := by
        unfold opRun
        cases s.out with
        | none => dsimp only; rw [if_neg hx]
        | some o => dsimp only; rw [if_neg hx, if_pos hcf]
      refine rk_iload_n dT_run_0 rfl ?_
      refine rk_if_lt 8 dT_run_1 (by decide) (fun q_1 => ?_) (fun q_1 => ?_)
      · exact absurd q_1 hx
      · refine rk_iconst (v := 1) dT_run_4 (by decide) ?_
        refine rk_goto 9 dT_run_5 (by decide) ?_
        refine rk_csI (c_T_require _ h) cT_125 dT_run_9 rfl lT_require (Nat.le_of_ble_eq_true rfl) (Nat.le_of_ble_eq_true rfl) (Nat.le_of_ble_eq_true rfl) (Nat.le_of_ble_eq_true rfl) rfl ⟨(Nat.le_of_ble_eq_true rfl), (Nat.le_of_ble_eq_true rfl)⟩ (fun g_9 => absurd (by decide) g_9) (fun g_9 => ?_)
        refine rk_aload_n dT_run_12 rfl ?_
        refine rk_cvI (c_T_requireCompiled C.a (tR_of C s.ws s.out s.comp) h e1) cT_163 dT_run_13 rfl lT_requireCompiled (Nat.le_of_ble_eq_true rfl) (Nat.le_of_ble_eq_true rfl) (Nat.le_of_ble_eq_true rfl) (Nat.le_of_ble_eq_true rfl) (by first | exact e1 | assumption) rfl ⟨(Nat.le_of_ble_eq_true rfl), (Nat.le_of_ble_eq_true rfl)⟩ (fun g_13 => (by rw [eo]; exact cPost.same k rfl rfl)) (fun g_13 => ?_)
        exact absurd (show b2i s.comp = 0 by rw [hcf]; rfl) g_13
