/-! THE MACHINE IN MY OWN WORDS. A heap picture by addresses (rk_H); a method's body (rk_Run); a method (rk_Con); nothing of the machine's context in either. -/
abbrev rk_E : Type := (Nat × vp_A) ⊕ (Nat × List Value) ⊕ (Nat × (Nat → Int32))
/-- an object; an int array; the script, which nobody writes -/
abbrev oB (ci : Nat) (fs : List Value) : rk_E := .inr (.inl (ci, fs))
abbrev iA (n : Nat) (f : Nat → Int32) : rk_E := .inl (0, n, .inl f)
abbrev lA (n : Nat) (f : Nat → Int64) : rk_E := .inl (1, n, .inr (.inl f))
abbrev dA (n : Nat) (f : Nat → UInt64) : rk_E := .inl (2, n, .inr (.inr (.inr (.inl f))))
abbrev qA (n : Nat) (f : Nat → Option Nat) : rk_E := .inl (3, n, .inr (.inr (.inr (.inr f))))
abbrev sA (n : Nat) (f : Nat → Int32) : rk_E := .inr (.inr (n, f))
def rk_ro : rk_E → Bool
  | .inl _ => false
  | .inr (.inl _) => false
  | .inr (.inr _) => true
abbrev rk_H : Type := Nat → Option rk_E
/-- what a call answers: a value or none, or the name of the class that was thrown -/
abbrev rk_O : Type := Option Value ⊕ String
/-- the world's constants: where the new cells begin; the classes' numbers and slots; the array classes' numbers -/
abbrev rk_G : Type := Nat × va_G × (Nat → ClassId)
/-- a method: its name, bytes, locals, what it returns, its handlers with the names of what they catch -/
abbrev rk_M : Type := MethodName × ByteArray × Nat × Option FieldType × List (Nat × Nat × Nat × Nat × String)
abbrev rk_P : Type := rk_O → rk_H → Prop
def rk_hh (M : rk_M) : List (Nat × Nat × Nat × Nat) := M.2.2.2.2.map (fun q => (q.1, q.2.1, q.2.2.1, q.2.2.2.1))
def rk_wd (M : rk_M) : Cond := match M.2.2.2.2 with
  | [] => .code M.1 M.2.1 M.2.2.1 M.2.2.2.1
  | _ :: _ => .codeWith M.1 M.2.1 M.2.2.1 M.2.2.2.1 (rk_hh M)
def rk_at (G : rk_G) (a : Nat) (e : rk_E) (H : Heap) : Prop := match e with
  | .inl q => H[a]? = some (vp_cell (G.2.2 q.1) q.2)
  | .inr (.inl o) => ∃ r : vw_C, vwCl[o.1]? = some r ∧ t_OB a (G.2.1.1 o.1) r.2.2 (G.2.1.2 o.1) H (vp_V o.2)
  | .inr (.inr x) => ∃ cell : Cell, H[a]? = some cell ∧ cell.cls = G.2.2 4 ∧ (∀ k, cell.vm ≠ .statics k) ∧ cell.vm ≠ .unknown ∧ cell.slots.size = x.1 ∧ ∀ j : Nat, j < x.1 → cell.slots[j]? = some (.int (x.2 j))
def rk_R (G : rk_G) (h : rk_H) (H : Heap) : Prop := ∀ (a : Nat) (e : rk_E), h a = some e → (rk_ro e = true ∨ G.1 ≤ a) ∧ rk_at G a e H
theorem rk_R.wr {G : rk_G} {h : rk_H} {H : Heap} (hR : rk_R G h H) {a : Nat} {e : rk_E} (he : h a = some e) (hr : rk_ro e = false) : G.1 ≤ a := (hR a e he).1.resolve_left (fun q => by rw [hr] at q; cases q)
def rk_S (G : rk_G) (H0 H : Heap) : Prop := (G.1 ≤ H.size ∧ H0.size ≤ H.size) ∧ ∀ q : Nat, q < G.1 → H[q]? = H0[q]?
def rk_up (h : rk_H) (a : Nat) (e : rk_E) : rk_H := fun q => if q = a then some e else h q
theorem rk_up_s {h : rk_H} {a : Nat} {e : rk_E} : rk_up h a e a = some e := by unfold rk_up; rw [if_pos rfl]
theorem rk_up_n {h : rk_H} {a q : Nat} {e : rk_E} (hq : q ≠ a) : rk_up h a e q = h q := by unfold rk_up; rw [if_neg hq]
theorem rk_up_k {h : rk_H} {a q : Nat} {e : rk_E} {r : Option rk_E} (hq : q ≠ a) (h1 : h q = r) : rk_up h a e q = r := by rw [rk_up_n hq]; exact h1
theorem rk_ne {h : rk_H} {a b : Nat} {e : rk_E} (ha : h a = some e) (hb : h b = none) : a ≠ b := fun q => by rw [q, hb] at ha; cases ha
theorem rk_at.kept {G : rk_G} {a : Nat} {e : rk_E} {H H1 : Heap} (h : rk_at G a e H) (h1 : H1[a]? = H[a]?) : rk_at G a e H1 := by
  match e, h with
  | .inl q, h => show H1[a]? = _; rw [h1]; exact h
  | .inr (.inl o), ⟨r, hr, ob⟩ => exact ⟨r, hr, ob.kept h1⟩
  | .inr (.inr x), ⟨c0, hc, hr⟩ => exact ⟨c0, by rw [h1]; exact hc, hr⟩
theorem rk_at.lt {G : rk_G} {a : Nat} {e : rk_E} {H : Heap} (h : rk_at G a e H) : a < H.size := by
  match e, h with
  | .inl q, h => exact (Array.getElem?_eq_some_iff.mp (show H[a]? = some _ from h)).1
  | .inr (.inl o), ⟨r, hr, c0, q1, _⟩ => exact (Array.getElem?_eq_some_iff.mp q1).1
  | .inr (.inr x), ⟨c0, hc, hr⟩ => exact (Array.getElem?_eq_some_iff.mp hc).1
theorem rk_R.lt {G : rk_G} {h : rk_H} {H : Heap} (hR : rk_R G h H) {a : Nat} {e : rk_E} (he : h a = some e) : a < H.size := (hR a e he).2.lt
theorem rk_R.fresh {G : rk_G} {h : rk_H} {H : Heap} (hR : rk_R G h H) : h H.size = none := by
  cases hx : h H.size with
  | none => rfl
  | some e => exact absurd (hR.lt hx) (Nat.lt_irrefl _)
theorem rk_R.set {G : rk_G} {h : rk_H} {H H1 : Heap} (hR : rk_R G h H) {a : Nat} {e : rk_E} (hB : G.1 ≤ a) (h1 : rk_at G a e H1) (ho : ∀ q : Nat, q ≠ a → H1[q]? = H[q]?) : rk_R G (rk_up h a e) H1 := by
  intro q e' hq
  by_cases hqa : q = a
  · subst hqa
    rw [rk_up_s] at hq
    cases hq
    exact ⟨Or.inr hB, h1⟩
  · rw [rk_up_n hqa] at hq
    exact ⟨(hR q e' hq).1, (hR q e' hq).2.kept (ho q hqa)⟩
theorem rk_R.kept {G : rk_G} {h : rk_H} {H H1 : Heap} (hR : rk_R G h H) (ho : ∀ q : Nat, q < H.size → H1[q]? = H[q]?) : rk_R G h H1 := fun q e hq => ⟨(hR q e hq).1, (hR q e hq).2.kept (ho q (hR.lt hq))⟩
theorem rk_R.push {G : rk_G} {h : rk_H} {H H1 : Heap} (hR : rk_R G h H) (hB : G.1 ≤ H.size) {e : rk_E} (h1 : rk_at G H.size e H1) (ho : ∀ q : Nat, q < H.size → H1[q]? = H[q]?) : rk_R G (rk_up h H.size e) H1 := by
  intro q e' hq
  by_cases hqa : q = H.size
  · subst hqa
    rw [rk_up_s] at hq
    cases hq
    exact ⟨Or.inr hB, h1⟩
  · rw [rk_up_n hqa] at hq
    exact ⟨(hR q e' hq).1, (hR q e' hq).2.kept (ho q (hR.lt hq))⟩
theorem rk_S.put {G : rk_G} {H0 H H1 : Heap} (h : rk_S G H0 H) (z : H1.size = H.size) {a : Nat} (ho : ∀ q : Nat, q ≠ a → H1[q]? = H[q]?) (ha : G.1 ≤ a) : rk_S G H0 H1 :=
  ⟨by rw [z]; exact h.1, fun q hq => by rw [ho q (fun e => by omega)]; exact h.2 q hq⟩
theorem rk_S.push {G : rk_G} {H0 H H1 : Heap} (h : rk_S G H0 H) (z : H1.size = H.size + 1) (ho : ∀ q : Nat, q < H.size → H1[q]? = H[q]?) : rk_S G H0 H1 :=
  ⟨by rw [z]; exact ⟨Nat.le_succ_of_le h.1.1, Nat.le_succ_of_le h.1.2⟩, fun q hq => by rw [ho q (Nat.lt_of_lt_of_le hq h.1.1)]; exact h.2 q hq⟩
theorem rk_S.trans {G : rk_G} {H0 H H1 : Heap} (h : rk_S G H0 H) (h1 : rk_S G H H1) : rk_S G H0 H1 :=
  ⟨⟨h1.1.1, Nat.le_trans h.1.2 h1.1.2⟩, fun q hq => by rw [h1.2 q hq]; exact h.2 q hq⟩
theorem rk_S.rf {G : rk_G} {H : Heap} (h : G.1 ≤ H.size) : rk_S G H H := ⟨⟨h, Nat.le_refl _⟩, fun _ _ => rfl⟩
/-- what is known of the tables, of the constant texts and of Throwable's statics, at a state -/
def rk_K (G : rk_G) (U : State) : Prop :=
  (∀ (c : Nat) (q : vw_C), vwCl[c]? = some q → u_Kn U q.1 q.2.1 q.2.2 (G.2.1.1 c) (G.2.1.2 c)) ∧
  (∀ (k : Nat) (ty : FieldType), rk_ty[k]? = some ty → ArrOfT U (G.2.2 k) ty ∧ va_RA U (G.2.2 k) ty) ∧
  (∀ q ∈ rk_str, ∃ a : Nat, vk_R q.1 q.2.1 q.2.2 a U) ∧
  (∀ q ∈ rk_sta, vx_Zq q.1 q.2.1 q.2.2 (fun x => G.1 ≤ x) U U.heap) ∧
  (∀ w ∈ rk_nst, va_Nw w U) ∧
  (∀ q ∈ rk_ncp, va_Nc q.1 q.2 U) ∧ va_AO "TensorForge$Node" U ∧ ArrOfT U (G.2.2 4) .int
/-- the locals: what is known of each place -/
def rk_prs : Nat → List (Option Value) → List (Nat × Value)
  | _, [] => []
  | i, none :: t => rk_prs (i + 1) t
  | i, some v :: t => (i, v) :: rk_prs (i + 1) t
theorem rk_prs_in {lv : List (Option Value)} : ∀ {i j : Nat} {v : Value}, (j, v) ∈ rk_prs i lv ↔ ∃ k : Nat, j = i + k ∧ lv[k]? = some (some v) := by
  induction lv with
  | nil => intro i j v; simp [rk_prs]
  | cons o t ih =>
    intro i j v
    cases o with
    | none =>
      simp only [rk_prs]
      rw [ih]
      constructor
      · rintro ⟨k, rfl, hk⟩
        exact ⟨k + 1, by omega, by simpa using hk⟩
      · rintro ⟨k, rfl, hk⟩
        cases k with
        | zero => simp at hk
        | succ k => exact ⟨k, by omega, by simpa using hk⟩
    | some w =>
      simp only [rk_prs, List.mem_cons]
      rw [ih]
      constructor
      · rintro (h | ⟨k, rfl, hk⟩)
        · cases h
          exact ⟨0, by omega, by simp⟩
        · exact ⟨k + 1, by omega, by simpa using hk⟩
      · rintro ⟨k, rfl, hk⟩
        cases k with
        | zero =>
          left
          simp at hk
          simp [hk]
        | succ k => right; exact ⟨k, by omega, by simpa using hk⟩
theorem rk_prs_at {lv : List (Option Value)} {j : Nat} {v : Value} : (j, v) ∈ rk_prs 0 lv ↔ lv[j]? = some (some v) := by
  rw [rk_prs_in]
  constructor
  · rintro ⟨k, rfl, hk⟩; simpa using hk
  · intro h; exact ⟨j, by omega, h⟩
def rk_cut (lv : List (Option Value)) (i : Nat) : List (Option Value) := match i with
  | 0 => lv
  | j + 1 => match lv[j]? with
    | some (some w) => if w.category = 2 then lv.set j none else lv
    | _ => lv
def rk_st1 (lv : List (Option Value)) (i : Nat) (v : Value) : List (Option Value) := (rk_cut lv i).set i (some v)
def rk_st2 (lv : List (Option Value)) (i : Nat) (v : Value) : List (Option Value) := ((rk_cut lv i).set i (some v)).set (i + 1) none
theorem rk_cut_at {lv : List (Option Value)} {i j : Nat} {w : Value} (h : (rk_cut lv i)[j]? = some (some w)) : lv[j]? = some (some w) ∧ ¬ (j + 1 = i ∧ w.category = 2) := by
  unfold rk_cut at h
  cases i with
  | zero => exact ⟨h, by omega⟩
  | succ i =>
    dsimp only at h
    split at h
    · next w' hw' =>
      by_cases hc : w'.category = 2
      · rw [if_pos hc] at h
        rw [List.getElem?_set] at h
        by_cases hij : i = j
        · subst hij
          simp at h
        · rw [if_neg hij] at h
          exact ⟨h, by omega⟩
      · rw [if_neg hc] at h
        refine ⟨h, fun q => ?_⟩
        have hij : j = i := by omega
        subst hij
        rw [h] at hw'
        cases hw'
        exact hc q.2
    · next hne =>
      refine ⟨h, fun q => ?_⟩
      have hij : j = i := by omega
      subst hij
      exact hne w h
theorem rk_st1_at {lv : List (Option Value)} {i j : Nat} {v w : Value} (h : (rk_st1 lv i v)[j]? = some (some w)) : (j, w) ∈ (i, v) :: (rk_prs 0 lv).filter (fun q => !(q.1 == i) && !(q.1 + 1 == i && q.2.category == 2)) := by
  unfold rk_st1 at h
  rw [List.getElem?_set] at h
  by_cases hij : i = j
  · subst hij
    rw [if_pos rfl] at h
    split at h
    · cases h; exact List.mem_cons_self
    · cases h
  · rw [if_neg hij] at h
    obtain ⟨h1, h2⟩ := rk_cut_at h
    refine List.mem_cons_of_mem _ (List.mem_filter.mpr ⟨rk_prs_at.mpr h1, ?_⟩)
    simp only [Bool.and_eq_true, Bool.not_eq_true', beq_eq_false_iff_ne, ne_eq, Bool.and_eq_false_iff]
    refine ⟨fun q => hij q.symm, ?_⟩
    by_cases hz : j + 1 = i
    · right; exact fun q => h2 ⟨hz, q⟩
    · left; exact hz
theorem rk_st2_at {lv : List (Option Value)} {i j : Nat} {v w : Value} (h : (rk_st2 lv i v)[j]? = some (some w)) : (j, w) ∈ (i, v) :: (rk_prs 0 lv).filter (fun q => !(q.1 == i) && (!(q.1 == i + 1) && !(q.1 + 1 == i && q.2.category == 2))) := by
  unfold rk_st2 at h
  rw [List.getElem?_set] at h
  by_cases h3 : i + 1 = j
  · subst h3
    rw [if_pos rfl] at h
    split at h
    · cases h
    · cases h
  · rw [if_neg h3] at h
    rw [List.getElem?_set] at h
    by_cases hij : i = j
    · subst hij
      rw [if_pos rfl] at h
      split at h
      · cases h; exact List.mem_cons_self
      · cases h
    · rw [if_neg hij] at h
      obtain ⟨h1, h2⟩ := rk_cut_at h
      refine List.mem_cons_of_mem _ (List.mem_filter.mpr ⟨rk_prs_at.mpr h1, ?_⟩)
      simp only [Bool.and_eq_true, Bool.not_eq_true', beq_eq_false_iff_ne, ne_eq, Bool.and_eq_false_iff]
      refine ⟨fun q => hij q.symm, fun q => h3 q.symm, ?_⟩
      by_cases hz : j + 1 = i
      · right; exact fun q => h2 ⟨hz, q⟩
      · left; exact hz
def rk_L (ls : Array Slot) (nL : Nat) (lv : List (Option Value)) : Prop := lv_has ls nL (rk_prs 0 lv)
theorem rk_L.at {ls : Array Slot} {nL i : Nat} {lv : List (Option Value)} {v : Value} (h : rk_L ls nL lv) (hv : lv[i]? = some (some v)) : ls[i]? = some (.val v) := h.2.2 (i, v) (rk_prs_at.mpr hv)
theorem rk_L.of {ls : Array Slot} {nL : Nat} {lv : List (Option Value)} {l : List (Nat × Value)} (h : lv_has ls nL l) (hs : ∀ (j : Nat) (w : Value), lv[j]? = some (some w) → (j, w) ∈ l) : rk_L ls nL lv :=
  ⟨h.1, h.2.1, fun q hq => h.2.2 q (hs q.1 q.2 (rk_prs_at.mp hq))⟩
/-- fewer places -/
def rk_le : List (Option Value) → List (Option Value) → Prop
  | [], _ => True
  | none :: t, l => rk_le t l.tail
  | some v :: t, l => l.head? = some (some v) ∧ rk_le t l.tail
theorem rk_le_at {a : List (Option Value)} : ∀ {b : List (Option Value)}, rk_le a b → ∀ {j : Nat} {w : Value}, a[j]? = some (some w) → b[j]? = some (some w) := by
  induction a with
  | nil => intro b _ j w h; simp at h
  | cons o t ih =>
    intro b h j w hj
    cases o with
    | none =>
      cases j with
      | zero => simp at hj
      | succ j =>
        have := ih (b := b.tail) h (j := j) (w := w) (by simpa using hj)
        rw [List.getElem?_tail] at this
        exact this
    | some v =>
      cases j with
      | zero =>
        simp at hj
        subst hj
        rw [← List.head?_eq_getElem?]
        exact h.1
      | succ j =>
        have := ih (b := b.tail) h.2 (j := j) (w := w) (by simpa using hj)
        rw [List.getElem?_tail] at this
        exact this
/-- what came out, and where -/
def rk_out (r : rk_O) (o : Outcome) (t : State) : Prop := match r with
  | .inl v => o = .returned v
  | .inr C => ∃ (x : Addr) (cell : Cell), o = .threw x ∧ t.heap[x]? = some cell ∧ cell.vm = .none ∧ t.vm.findClass C = some cell.cls
/-- a method's bounds: frames and words above it, the cells and slots that it may make -/
abbrev rk_B : Type := Nat × Nat × Nat × Nat
/-- how far it is: the cells and slots made -/
abbrev rk_U : Type := Nat × Nat
def rk_end (P : rk_P) (G : rk_G) (s : State) (o : Outcome) (t : State) : Prop := (∃ (r : rk_O) (h : rk_H), rk_out r o t ∧ P r h ∧ rk_R G h t.heap) ∧ rk_S G s.heap t.heap
def rk_Q (P : rk_P) (G : rk_G) (B : rk_B) (s : State) (below : List Frame) : State → Prop := fun t =>
  ∃ o, t.status = .running ∧ Ended t below o ∧ rk_end P G s o t ∧ ∃ L : List Loc, (s.WarmedH t.vm ∧ s.sameButNew ({ t with vm := s.vm } : State) L B.2.2.1 B.2.2.2) ∧ ∀ q ∈ L, G.1 ≤ q.base
def rk_lok (l : Launch) : Prop := l.stackTraces = false
def rk_Cx (M : rk_M) (B : rk_B) (l : Launch) (p : Program) (e : Env) (R : Room) (s : State) (m : MethodId) (args : Array Value) (meth : Method) (c : Code) (G : rk_G) : Prop :=
  p.tables.exec = Jvm.exec ∧ c.code = M.2.1 ∧ c.maxLocals = M.2.2.1 ∧ meth.sig.returnType = M.2.2.2.1 ∧ meth.locks = false ∧ s.vm.findClass M.1.cls = some m.cls ∧ (∀ w ∈ rk_tbl, w.before args s = true) ∧ rk_K G s ∧
  c.exceptionTable.toList = tableOf (rk_hh M) ∧ B.1 ≤ R.frames ∧ B.2.1 ≤ R.locals ∧ B.2.2.1 ≤ R.cells ∧ B.2.2.2 ≤ R.slots ∧ meth.name = M.1.name ∧ rk_lok l
def rk_Run (M : rk_M) (B : rk_B) (P : rk_P) (pc : Nat) (lv : List (Option Value)) (st : List Value) (h : rk_H) (u : rk_U) : Prop :=
  ∀ (l : Launch) (p : Program) (e : Env) (R : Room) (s : State) (m : MethodId) (args : Array Value) (below : List Frame) (meth : Method) (c : Code) (G : rk_G) (H : Heap) (locs : List Loc) (ls : Array Slot),
    rk_Cx M B l p e R s m args meth c G → rk_R G h H → rk_S G s.heap H → (∀ q ∈ locs, G.1 ≤ q.base) → rk_L ls M.2.2.1 lv →
    W p l e R s m args below meth c H locs u.1 u.2 (rk_Q P G B s below) (F0 m pc ls st)
/-- A METHOD: from the arguments and the picture, within its bounds -/
def rk_Con (M : rk_M) (B : rk_B) (as : List Value) (h : rk_H) (P : rk_P) : Prop :=
  ∀ (l : Launch) (G : rk_G), rk_lok l → MetFree l M.1 (headSpec (rk_wd M :: rk_tbl) { frames := B.1, cells := B.2.2.1, slots := B.2.2.2, locals := B.2.1 })
    (fun a U => a = as.toArray ∧ G.1 ≤ U.heap.size ∧ rk_R G h U.heap ∧ rk_K G U) (fun _ _ _ _ _ => True)
    (fun _ st o t => rk_end P G st o t ∧ ∃ L : List Loc, (st.WarmedH t.vm ∧ st.sameButNew ({ t with vm := st.vm } : State) L B.2.2.1 B.2.2.2) ∧ ∀ q ∈ L, G.1 ≤ q.base)
theorem rk_Wmono {p : Program} {l : Launch} {e : Env} {R : Room} {s : State} {m : MethodId} {args : Array Value} {below : List Frame} {meth : Method} {c : Code} {H : Heap} {locs : List Loc} {cells slots : Nat} {Q Q' : State → Prop} {g : JFrame} (hq : ∀ t, Q t → Q' t) (w : W p l e R s m args below meth c H locs cells slots Q g) : W p l e R s m args below meth c H locs cells slots Q' g := by
  intro T hT X
  obtain ⟨t, a, b⟩ := w T hT X
  exact ⟨t, a, hq t b⟩
theorem rk_MQ {P : rk_P} {G : rk_G} {B : rk_B} {s : State} {below : List Frame} {args : Array Value} : ∀ t, MQ below (fun _ st o t => rk_end P G st o t) args s B.2.2.1 B.2.2.2 (fun q => G.1 ≤ q) t → rk_Q P G B s below t := by
  rintro t ⟨o, h1, h2, h3, L, ⟨-, h4, h5⟩, h6⟩
  exact ⟨o, h1, h2, h3, L, ⟨h4, h5⟩, h6⟩
/-- the state behind: what is known stays known -/
theorem rk_K.next {G : rk_G} {s U : State} (hK : rk_K G s) (hW : s.WarmedH U.vm) (hS : rk_S G s.heap U.heap) : rk_K G U := by
  obtain ⟨h1, h2, h3, h4, h5, h6, h7, h8⟩ := hK
  refine ⟨fun c q hq => u_Kn_moved hW.alike (h1 c q hq), fun k ty hk => ⟨?_, va_RA.moved hW.alike (h2 k ty hk).2⟩, fun q hq => ?_, fun q hq => ?_, fun w hw => ?_, fun q hq => va_Nc.moved hW.alike (h6 q hq), va_AO.moved hW.alike h7, fun N z => State.isArrayOf_alike hW.alike (h8 N z)⟩
  · exact fun N z => State.isArrayOf_alike hW.alike ((h2 k ty hk).1 N z)
  · obtain ⟨a, ha⟩ := h3 q hq
    exact ⟨a, vk_R.warm hW ha⟩
  · exact (vx_Zq.moved hW.alike (h4 q hq)).kept (fun x _ hx => hS.2 x (Nat.not_le.mp hx))
  · exact rk_nst_warm w hw hW (h5 w hw)
theorem rk_cast {G : rk_G} {s : State} {args : Array Value} (E : String) (hE : E ∈ rk_exc) (hK : rk_K G s) : (Cond.castable E E).before args s = true := by
  have h : Cond.castable E E ∈ rk_nst := by
    have hall : ∀ E ∈ rk_exc, Cond.castable E E ∈ rk_nst := by decide +kernel
    exact hall E hE
  exact va_Nw.use rfl (hK.2.2.2.2.1 _ h)
theorem rk_ncst {G : rk_G} {s : State} (E : String) (hE : E ∈ rk_exc) (F : String) (hF : F ∈ rk_exc) (hne : E ≠ F) (hK : rk_K G s) : va_Nc E F s := by
  have hall : ∀ E ∈ rk_exc, ∀ F ∈ rk_exc, E ≠ F → (E, F) ∈ rk_ncp := by decide +kernel
  exact hK.2.2.2.2.2.1 (E, F) (hall E hE F hF hne)
theorem rk_Con.of {M : rk_M} {B : rk_B} {as : List Value} {h : rk_H} {P : rk_P} (lv : List (Option Value)) (hl : rk_prs 0 lv = lv_args 0 as) (hlen : (lg_sl as).length ≤ M.2.2.1) (hn : plainName M.1.cls = true) (r : rk_Run M B P 0 lv [] h (0, 0)) : rk_Con M B as h P := by
  intro l G hok
  have hspec : ∀ (args : Array Value) (s : State) (m : MethodId), (headSpec (rk_wd M :: rk_tbl) { frames := B.1, cells := B.2.2.1, slots := B.2.2.2, locals := B.2.1 }).pre.before args s = true → s.methodNamed? M.1 = some m →
      ∃ (meth : Method) (c : Code), s.vm.method? m = some meth ∧ meth.code = some c ∧ c.code = M.2.1 ∧ c.maxLocals = M.2.2.1 ∧ meth.sig.returnType = M.2.2.2.1 ∧ meth.locks = false ∧ c.exceptionTable.toList = tableOf (rk_hh M) := by
    intro args s m hp hm
    have hw := atoms_spec (ws := rk_wd M :: rk_tbl) hp _ List.mem_cons_self
    obtain ⟨y, bs, nL, rt, hh⟩ := M
    cases hh with
    | nil =>
      obtain ⟨meth, c, h1, h2, h3, h4, h5, h6, h7, -⟩ := Cond.code_spec hm (show (Cond.code y bs nL rt).before args s = true from hw)
      refine ⟨meth, c, h1, h2, h3, h4, h5, h6, ?_⟩
      have h0 : c.exceptionTable.size = 0 := by simpa [Array.isEmpty] using h7
      exact List.eq_nil_of_length_eq_zero (by simpa using h0)
    | cons q t =>
      obtain ⟨m', meth, c, h0, h1, h2, h3, h4, h5, h6, h7, -⟩ := Cond.codeWith_spec (show (Cond.codeWith y bs nL rt (rk_hh (y, bs, nL, rt, q :: t))).before args s = true from hw)
      cases hm.symm.trans h0
      exact ⟨meth, c, h1, h2, h3, h4, h6, h7, by rw [← h5, table_eq]⟩
  refine MetFree.of_bodyS (code := M.2.1) (maxLocals := M.2.2.1) (ret := M.2.2.2.1) hn ?_ ?_
  · intro args s m hp hm
    obtain ⟨meth, c, h1, h2, h3, h4, h5, h6, -⟩ := hspec args s m hp hm
    exact ⟨meth, c, h1, h2, h3, h4, h5, h6⟩
  · intro p e s m args below meth c s₁ Bd hml hP _
    obtain ⟨rfl, hB, hR, hK⟩ := hP
    have hh0 : s₁.heap = s.heap := by rw [Bd.state]; rfl
    have X := Stand.of_body Bd
    obtain ⟨meth', c', h1, h2, -, -, -, -, htab⟩ := hspec as.toArray s m Bd.pre Bd.named
    cases Bd.method.symm.trans h1
    cases X.code.symm.trans h2
    have hts0 := atoms_spec (ws := rk_wd M :: rk_tbl) Bd.pre
    have hlv := lv_entry as (n := M.2.2.1) hlen
    obtain ⟨t, a1, o, b1, b2, b3, b4⟩ := r l p e _ s m as.toArray below meth c G s.heap [] _
      ⟨Bd.exec, Bd.bytes, hml, Bd.returns, Bd.notSynchronized, findClass_of_methodNamed Bd.named, fun w hw => hts0 w (List.mem_cons_of_mem _ hw), hK, htab, Nat.le_refl _, Nat.le_refl _, Nat.le_refl _, Nat.le_refl _, (name_of_methodNamed Bd.named Bd.method).1, hok⟩
      hR (rk_S.rf hB) (fun q hq => absurd hq List.not_mem_nil) (show lv_has _ _ (rk_prs 0 lv) by rw [hl]; exact hlv) s₁ hh0 X
    refine ⟨t, o, ?_, b1, b2, b3, b4⟩
    rw [lg_entry_eq]
    exact a1
/-- a wider end -/
theorem rk_Con.mono {M : rk_M} {B : rk_B} {as : List Value} {h : rk_H} {P P' : rk_P} (c : rk_Con M B as h P) (hP : ∀ r h', P r h' → P' r h') : rk_Con M B as h P' := by
  intro l G hok p e ha hc hk s m args below hf happ hp hkk
  obtain ⟨n, o, h1, h2, h3, ⟨⟨⟨r, h', q1, q2, q3⟩, q4⟩, q5⟩⟩ := c l G hok p e ha hc hk s m args below hf happ hp hkk
  exact ⟨n, o, h1, h2, h3, ⟨⟨⟨r, h', q1, hP r h' q2, q3⟩, q4⟩, q5⟩⟩
section RKR
variable {M : rk_M} {B : rk_B} {P : rk_P} {pc : Nat} {lv : List (Option Value)} {st : List Value} {h : rk_H} {u : rk_U}
theorem rk_lv (lv' : List (Option Value)) (hs : rk_le lv' lv) (r : rk_Run M B P pc lv' st h u) : rk_Run M B P pc lv st h u := by
  intro l p e R s m args below meth c G H locs ls C hR hS hf hl
  exact r l p e R s m args below meth c G H locs ls C hR hS hf (rk_L.of hl (fun j w hw => rk_prs_at.mpr (rk_le_at hs hw)))
/-- counted higher -/
theorem rk_wide (u' : rk_U) (hk : u.1 ≤ u'.1) (hn : u.2 ≤ u'.2) (r : rk_Run M B P pc lv st h u') : rk_Run M B P pc lv st h u := by
  intro l p e R s m args below meth c G H locs ls C hR hS hf hl
  exact W.widen hk hn (r l p e R s m args below meth c G H locs ls C hR hS hf hl)
theorem rk_topi {x : Int32} (r : ∀ y : Int32, y = x → rk_Run M B P pc lv (.int y :: st) h u) : rk_Run M B P pc lv (.int x :: st) h u := r x rfl
theorem rk_topl {x : Int64} (r : ∀ y : Int64, y = x → rk_Run M B P pc lv (.long y :: st) h u) : rk_Run M B P pc lv (.long x :: st) h u := r x rfl
theorem rk_topd {x : UInt64} (r : ∀ y : UInt64, y = x → rk_Run M B P pc lv (.double y :: st) h u) : rk_Run M B P pc lv (.double x :: st) h u := r x rfl
/-- within the bounds -/
def rk_ok (u : rk_U) (B : rk_B) : Prop := u.1 ≤ B.2.2.1 ∧ u.2 ≤ B.2.2.2
theorem rk_fin {G : rk_G} {s t : State} {H : Heap} {v : Option Value} (hR : rk_R G h H) (hS : rk_S G s.heap H) (hP : P (.inl v) h) (ht : t.heap = H) : rk_end P G s (.returned v) t :=
  ⟨⟨.inl v, h, rfl, hP, by rw [ht]; exact hR⟩, by rw [ht]; exact hS⟩
-- ends
theorem rk_iret {v : Int32} (hret : M.2.2.2.1 = some .int) (hd : decode M.2.1 pc = .ok (.ireturn, 1)) (hu : rk_ok u B) (hP : P (.inl (some (.int v))) h) : rk_Run M B P pc lv [.int v] h u := by
  intro l p e R s m args below meth c G H locs ls C hR hS hf hl
  refine W.widen hu.1 hu.2 (rk_Wmono (rk_MQ (args := args)) ?_)
  exact W.iret C.1 C.2.1 (C.2.2.2.1.trans hret) (fun t ht _ => rk_fin hR hS hP ht) hf hd C.2.2.2.2.1
theorem rk_zret {v : Int32} {ty : FieldType} (hret : M.2.2.2.1 = some ty) (hnr : narrow ty (.int v) = .int v) (hd : decode M.2.1 pc = .ok (.ireturn, 1)) (hu : rk_ok u B) (hP : P (.inl (some (.int v))) h) : rk_Run M B P pc lv [.int v] h u := by
  intro l p e R s m args below meth c G H locs ls C hR hS hf hl
  refine W.widen hu.1 hu.2 (rk_Wmono (rk_MQ (args := args)) ?_)
  exact W.zret C.1 C.2.1 (C.2.2.2.1.trans hret) hnr (fun t ht _ => rk_fin hR hS hP ht) hf hd C.2.2.2.2.1
theorem rk_lret {v : Int64} (hret : M.2.2.2.1 = some .long) (hd : decode M.2.1 pc = .ok (.lreturn, 1)) (hu : rk_ok u B) (hP : P (.inl (some (.long v))) h) : rk_Run M B P pc lv [.long v] h u := by
  intro l p e R s m args below meth c G H locs ls C hR hS hf hl
  refine W.widen hu.1 hu.2 (rk_Wmono (rk_MQ (args := args)) ?_)
  exact W.lret C.1 C.2.1 (C.2.2.2.1.trans hret) (fun t ht _ => rk_fin hR hS hP ht) hf hd C.2.2.2.2.1
theorem rk_dret {v : UInt64} (hret : M.2.2.2.1 = some .double) (hd : decode M.2.1 pc = .ok (.dreturn, 1)) (hu : rk_ok u B) (hP : P (.inl (some (.double v))) h) : rk_Run M B P pc lv [.double v] h u := by
  intro l p e R s m args below meth c G H locs ls C hR hS hf hl
  refine W.widen hu.1 hu.2 (rk_Wmono (rk_MQ (args := args)) ?_)
  exact W.dret C.1 C.2.1 (C.2.2.2.1.trans hret) (fun t ht _ => rk_fin hR hS hP ht) hf hd C.2.2.2.2.1
theorem rk_aret {v : Value} {rt : FieldType} (hret : M.2.2.2.1 = some rt) (hrt : (∃ n, rt = .object n) ∨ ∃ t, rt = .array t) (hv : v = .null ∨ ∃ a, v = .ref a) (hd : decode M.2.1 pc = .ok (.areturn, 1)) (hu : rk_ok u B) (hP : P (.inl (some v)) h) : rk_Run M B P pc lv [v] h u := by
  intro l p e R s m args below meth c G H locs ls C hR hS hf hl
  refine W.widen hu.1 hu.2 (rk_Wmono (rk_MQ (args := args)) ?_)
  exact W.aret C.1 C.2.1 (C.2.2.2.1.trans hret) hrt hv (fun t ht _ => rk_fin hR hS hP ht) hf hd C.2.2.2.2.1
theorem rk_ret (hret : M.2.2.2.1 = none) (hd : decode M.2.1 pc = .ok (.return_, 1)) (hu : rk_ok u B) (hP : P (.inl none) h) : rk_Run M B P pc lv [] h u := by
  intro l p e R s m args below meth c G H locs ls C hR hS hf hl
  refine W.widen hu.1 hu.2 (rk_Wmono (rk_MQ (args := args)) ?_)
  exact W.vret C.1 C.2.1 (C.2.2.2.1.trans hret) (fun t ht _ => rk_fin hR hS hP ht) hf hd C.2.2.2.2.1
theorem rk_iconst {z : Int} {v : Int32} (hd : decode M.2.1 pc = .ok (.iconst z, 1)) (hv : Int32.ofInt z = v) (r : rk_Run M B P (pc + 1) lv (.int v :: st) h u) : rk_Run M B P pc lv st h u := by
  intro l p e R s m args below meth c G H locs ls C hR hS hf hl
  exact lv_iconst C.1 C.2.1 hd hv (r l p e R s m args below meth c G H locs ls C hR hS hf hl)
theorem rk_bipush {z : Int} {v : Int32} (hd : decode M.2.1 pc = .ok (.bipush z, 2)) (hv : (Int8.ofInt z).toInt32 = v) (r : rk_Run M B P (pc + 2) lv (.int v :: st) h u) : rk_Run M B P pc lv st h u := by
  intro l p e R s m args below meth c G H locs ls C hR hS hf hl
  exact lv_bipush C.1 C.2.1 hd hv (r l p e R s m args below meth c G H locs ls C hR hS hf hl)
theorem rk_sipush {z : Int} {v : Int32} (hd : decode M.2.1 pc = .ok (.sipush z, 3)) (hv : (Int16.ofInt z).toInt32 = v) (r : rk_Run M B P (pc + 3) lv (.int v :: st) h u) : rk_Run M B P pc lv st h u := by
  intro l p e R s m args below meth c G H locs ls C hR hS hf hl
  exact lv_sipush C.1 C.2.1 hd hv (r l p e R s m args below meth c G H locs ls C hR hS hf hl)
theorem rk_lconst {z : Fin 2} {v : Int64} (hd : decode M.2.1 pc = .ok (.lconst z, 1)) (hv : Int64.ofNat (z : Nat) = v) (r : rk_Run M B P (pc + 1) lv (.long v :: st) h u) : rk_Run M B P pc lv st h u := by
  intro l p e R s m args below meth c G H locs ls C hR hS hf hl
  exact lv_lconst C.1 C.2.1 hd hv (r l p e R s m args below meth c G H locs ls C hR hS hf hl)
theorem rk_iload_n {z : Fin 4} {x : Int32} (hd : decode M.2.1 pc = .ok (.iload_n z, 1)) (hx : lv[z.val]? = some (some (.int x))) (r : rk_Run M B P (pc + 1) lv (.int x :: st) h u) : rk_Run M B P pc lv st h u := by
  intro l p e R s m args below meth c G H locs ls C hR hS hf hl
  exact lv_iload_n C.1 C.2.1 hd rfl (hl.at hx) (r l p e R s m args below meth c G H locs ls C hR hS hf hl)
theorem rk_iload {z : Nat} {x : Int32} (hd : decode M.2.1 pc = .ok (.iload z, 2)) (hx : lv[z]? = some (some (.int x))) (r : rk_Run M B P (pc + 2) lv (.int x :: st) h u) : rk_Run M B P pc lv st h u := by
  intro l p e R s m args below meth c G H locs ls C hR hS hf hl
  exact lv_iload C.1 C.2.1 hd (hl.at hx) (r l p e R s m args below meth c G H locs ls C hR hS hf hl)
theorem rk_lload_n {z : Fin 4} {x : Int64} (hd : decode M.2.1 pc = .ok (.lload_n z, 1)) (hx : lv[z.val]? = some (some (.long x))) (r : rk_Run M B P (pc + 1) lv (.long x :: st) h u) : rk_Run M B P pc lv st h u := by
  intro l p e R s m args below meth c G H locs ls C hR hS hf hl
  exact lv_lload_n C.1 C.2.1 hd rfl (hl.at hx) (r l p e R s m args below meth c G H locs ls C hR hS hf hl)
theorem rk_lload {z : Nat} {x : Int64} (hd : decode M.2.1 pc = .ok (.lload z, 2)) (hx : lv[z]? = some (some (.long x))) (r : rk_Run M B P (pc + 2) lv (.long x :: st) h u) : rk_Run M B P pc lv st h u := by
  intro l p e R s m args below meth c G H locs ls C hR hS hf hl
  exact lv_lload C.1 C.2.1 hd (hl.at hx) (r l p e R s m args below meth c G H locs ls C hR hS hf hl)
theorem rk_dload_n {z : Fin 4} {x : UInt64} (hd : decode M.2.1 pc = .ok (.dload_n z, 1)) (hx : lv[z.val]? = some (some (.double x))) (r : rk_Run M B P (pc + 1) lv (.double x :: st) h u) : rk_Run M B P pc lv st h u := by
  intro l p e R s m args below meth c G H locs ls C hR hS hf hl
  exact lv_dload_n C.1 C.2.1 hd rfl (hl.at hx) (r l p e R s m args below meth c G H locs ls C hR hS hf hl)
theorem rk_dload {z : Nat} {x : UInt64} (hd : decode M.2.1 pc = .ok (.dload z, 2)) (hx : lv[z]? = some (some (.double x))) (r : rk_Run M B P (pc + 2) lv (.double x :: st) h u) : rk_Run M B P pc lv st h u := by
  intro l p e R s m args below meth c G H locs ls C hR hS hf hl
  exact lv_dload C.1 C.2.1 hd (hl.at hx) (r l p e R s m args below meth c G H locs ls C hR hS hf hl)
theorem rk_aload_n {z : Fin 4} {x : Nat} (hd : decode M.2.1 pc = .ok (.aload_n z, 1)) (hx : lv[z.val]? = some (some (.ref x))) (r : rk_Run M B P (pc + 1) lv (.ref x :: st) h u) : rk_Run M B P pc lv st h u := by
  intro l p e R s m args below meth c G H locs ls C hR hS hf hl
  exact lv_aload_n C.1 C.2.1 hd rfl (hl.at hx) (r l p e R s m args below meth c G H locs ls C hR hS hf hl)
theorem rk_aload {z : Nat} {x : Nat} (hd : decode M.2.1 pc = .ok (.aload z, 2)) (hx : lv[z]? = some (some (.ref x))) (r : rk_Run M B P (pc + 2) lv (.ref x :: st) h u) : rk_Run M B P pc lv st h u := by
  intro l p e R s m args below meth c G H locs ls C hR hS hf hl
  exact lv_aload C.1 C.2.1 hd (hl.at hx) (r l p e R s m args below meth c G H locs ls C hR hS hf hl)
theorem rk_istore_n {z : Fin 4} {x : Int32} (hd : decode M.2.1 pc = .ok (.istore_n z, 1)) (hb : z.val < M.2.2.1) (r : rk_Run M B P (pc + 1) (rk_st1 lv z.val (.int x)) st h u) : rk_Run M B P pc lv (.int x :: st) h u := by
  intro l p e R s m args below meth c G H locs ls C hR hS hf hl
  exact lv_istore_n C.1 C.2.1 hd rfl hl hb rfl (fun ls hl => r l p e R s m args below meth c G H locs ls C hR hS hf (rk_L.of hl (fun j w hw => rk_st1_at hw)))
theorem rk_istore {z : Nat} {x : Int32} (hd : decode M.2.1 pc = .ok (.istore z, 2)) (hb : z < M.2.2.1) (r : rk_Run M B P (pc + 2) (rk_st1 lv z (.int x)) st h u) : rk_Run M B P pc lv (.int x :: st) h u := by
  intro l p e R s m args below meth c G H locs ls C hR hS hf hl
  exact lv_istore C.1 C.2.1 hd hl hb rfl (fun ls hl => r l p e R s m args below meth c G H locs ls C hR hS hf (rk_L.of hl (fun j w hw => rk_st1_at hw)))
theorem rk_lstore_n {z : Fin 4} {x : Int64} (hd : decode M.2.1 pc = .ok (.lstore_n z, 1)) (hb : z.val + 1 < M.2.2.1) (r : rk_Run M B P (pc + 1) (rk_st2 lv z.val (.long x)) st h u) : rk_Run M B P pc lv (.long x :: st) h u := by
  intro l p e R s m args below meth c G H locs ls C hR hS hf hl
  exact lv_lstore_n C.1 C.2.1 hd rfl hl hb rfl (fun ls hl => r l p e R s m args below meth c G H locs ls C hR hS hf (rk_L.of hl (fun j w hw => rk_st2_at hw)))
theorem rk_lstore {z : Nat} {x : Int64} (hd : decode M.2.1 pc = .ok (.lstore z, 2)) (hb : z + 1 < M.2.2.1) (r : rk_Run M B P (pc + 2) (rk_st2 lv z (.long x)) st h u) : rk_Run M B P pc lv (.long x :: st) h u := by
  intro l p e R s m args below meth c G H locs ls C hR hS hf hl
  exact lv_lstore C.1 C.2.1 hd hl hb rfl (fun ls hl => r l p e R s m args below meth c G H locs ls C hR hS hf (rk_L.of hl (fun j w hw => rk_st2_at hw)))
theorem rk_dstore_n {z : Fin 4} {x : UInt64} (hd : decode M.2.1 pc = .ok (.dstore_n z, 1)) (hb : z.val + 1 < M.2.2.1) (r : rk_Run M B P (pc + 1) (rk_st2 lv z.val (.double x)) st h u) : rk_Run M B P pc lv (.double x :: st) h u := by
  intro l p e R s m args below meth c G H locs ls C hR hS hf hl
  exact lv_dstore_n C.1 C.2.1 hd rfl hl hb rfl (fun ls hl => r l p e R s m args below meth c G H locs ls C hR hS hf (rk_L.of hl (fun j w hw => rk_st2_at hw)))
theorem rk_dstore {z : Nat} {x : UInt64} (hd : decode M.2.1 pc = .ok (.dstore z, 2)) (hb : z + 1 < M.2.2.1) (r : rk_Run M B P (pc + 2) (rk_st2 lv z (.double x)) st h u) : rk_Run M B P pc lv (.double x :: st) h u := by
  intro l p e R s m args below meth c G H locs ls C hR hS hf hl
  exact lv_dstore C.1 C.2.1 hd hl hb rfl (fun ls hl => r l p e R s m args below meth c G H locs ls C hR hS hf (rk_L.of hl (fun j w hw => rk_st2_at hw)))
theorem rk_astore_n {z : Fin 4} {x : Nat} (hd : decode M.2.1 pc = .ok (.astore_n z, 1)) (hb : z.val < M.2.2.1) (r : rk_Run M B P (pc + 1) (rk_st1 lv z.val (.ref x)) st h u) : rk_Run M B P pc lv (.ref x :: st) h u := by
  intro l p e R s m args below meth c G H locs ls C hR hS hf hl
  exact lv_astore_n C.1 C.2.1 hd rfl hl hb rfl (fun ls hl => r l p e R s m args below meth c G H locs ls C hR hS hf (rk_L.of hl (fun j w hw => rk_st1_at hw)))
theorem rk_astore {z : Nat} {x : Nat} (hd : decode M.2.1 pc = .ok (.astore z, 2)) (hb : z < M.2.2.1) (r : rk_Run M B P (pc + 2) (rk_st1 lv z (.ref x)) st h u) : rk_Run M B P pc lv (.ref x :: st) h u := by
  intro l p e R s m args below meth c G H locs ls C hR hS hf hl
  exact lv_astore C.1 C.2.1 hd hl hb rfl (fun ls hl => r l p e R s m args below meth c G H locs ls C hR hS hf (rk_L.of hl (fun j w hw => rk_st1_at hw)))
theorem rk_iinc {i : Nat} {z : Int} {x v : Int32} (hd : decode M.2.1 pc = .ok (.iinc i z, 3)) (hx : lv[i]? = some (some (.int x))) (hv : x + Int32.ofInt z = v) (hb : i < M.2.2.1) (r : rk_Run M B P (pc + 3) (rk_st1 lv i (.int v)) st h u) : rk_Run M B P pc lv st h u := by
  intro l p e R s m args below meth c G H locs ls C hR hS hf hl
  obtain ⟨j, hj⟩ := List.getElem?_of_mem (rk_prs_at.mpr hx)
  exact lv_iinc C.1 C.2.1 hd hl hj hv hb rfl (fun ls hl => r l p e R s m args below meth c G H locs ls C hR hS hf (rk_L.of hl (fun j w hw => rk_st1_at hw)))
theorem rk_iadd {x y : Int32} (hd : decode M.2.1 pc = .ok (.iadd, 1)) (r : rk_Run M B P (pc + 1) lv (.int (x + y) :: st) h u) : rk_Run M B P pc lv (.int y :: .int x :: st) h u := by
  intro l p e R s m args below meth c G H locs ls C hR hS hf hl
  exact lv_iadd C.1 C.2.1 hd (r l p e R s m args below meth c G H locs ls C hR hS hf hl)
theorem rk_isub {x y : Int32} (hd : decode M.2.1 pc = .ok (.isub, 1)) (r : rk_Run M B P (pc + 1) lv (.int (x - y) :: st) h u) : rk_Run M B P pc lv (.int y :: .int x :: st) h u := by
  intro l p e R s m args below meth c G H locs ls C hR hS hf hl
  exact lv_isub C.1 C.2.1 hd (r l p e R s m args below meth c G H locs ls C hR hS hf hl)
theorem rk_imul {x y : Int32} (hd : decode M.2.1 pc = .ok (.imul, 1)) (r : rk_Run M B P (pc + 1) lv (.int (x * y) :: st) h u) : rk_Run M B P pc lv (.int y :: .int x :: st) h u := by
  intro l p e R s m args below meth c G H locs ls C hR hS hf hl
  exact lv_imul C.1 C.2.1 hd (r l p e R s m args below meth c G H locs ls C hR hS hf hl)
theorem rk_iand {x y : Int32} (hd : decode M.2.1 pc = .ok (.iand, 1)) (r : rk_Run M B P (pc + 1) lv (.int (x &&& y) :: st) h u) : rk_Run M B P pc lv (.int y :: .int x :: st) h u := by
  intro l p e R s m args below meth c G H locs ls C hR hS hf hl
  exact lv_iand C.1 C.2.1 hd (r l p e R s m args below meth c G H locs ls C hR hS hf hl)
theorem rk_ior {x y : Int32} (hd : decode M.2.1 pc = .ok (.ior, 1)) (r : rk_Run M B P (pc + 1) lv (.int (x ||| y) :: st) h u) : rk_Run M B P pc lv (.int y :: .int x :: st) h u := by
  intro l p e R s m args below meth c G H locs ls C hR hS hf hl
  exact lv_ior C.1 C.2.1 hd (r l p e R s m args below meth c G H locs ls C hR hS hf hl)
theorem rk_ixor {x y : Int32} (hd : decode M.2.1 pc = .ok (.ixor, 1)) (r : rk_Run M B P (pc + 1) lv (.int (x ^^^ y) :: st) h u) : rk_Run M B P pc lv (.int y :: .int x :: st) h u := by
  intro l p e R s m args below meth c G H locs ls C hR hS hf hl
  exact lv_ixor C.1 C.2.1 hd (r l p e R s m args below meth c G H locs ls C hR hS hf hl)
theorem rk_idiv {x y : Int32} (hd : decode M.2.1 pc = .ok (.idiv, 1)) (hne : ¬ y = 0) (r : rk_Run M B P (pc + 1) lv (.int (x / y) :: st) h u) : rk_Run M B P pc lv (.int y :: .int x :: st) h u := by
  intro l p e R s m args below meth c G H locs ls C hR hS hf hl
  exact lv_idiv C.1 C.2.1 hd hne (r l p e R s m args below meth c G H locs ls C hR hS hf hl)
theorem rk_irem {x y : Int32} (hd : decode M.2.1 pc = .ok (.irem, 1)) (hne : ¬ y = 0) (r : rk_Run M B P (pc + 1) lv (.int (x - x / y * y) :: st) h u) : rk_Run M B P pc lv (.int y :: .int x :: st) h u := by
  intro l p e R s m args below meth c G H locs ls C hR hS hf hl
  exact lv_irem C.1 C.2.1 hd hne (r l p e R s m args below meth c G H locs ls C hR hS hf hl)
theorem rk_ineg {x : Int32} (hd : decode M.2.1 pc = .ok (.ineg, 1)) (r : rk_Run M B P (pc + 1) lv (.int (-x) :: st) h u) : rk_Run M B P pc lv (.int x :: st) h u := by
  intro l p e R s m args below meth c G H locs ls C hR hS hf hl
  exact lv_ineg C.1 C.2.1 hd (r l p e R s m args below meth c G H locs ls C hR hS hf hl)
theorem rk_ladd {x y : Int64} (hd : decode M.2.1 pc = .ok (.ladd, 1)) (r : rk_Run M B P (pc + 1) lv (.long (x + y) :: st) h u) : rk_Run M B P pc lv (.long y :: .long x :: st) h u := by
  intro l p e R s m args below meth c G H locs ls C hR hS hf hl
  exact lv_ladd C.1 C.2.1 hd (r l p e R s m args below meth c G H locs ls C hR hS hf hl)
theorem rk_lsub {x y : Int64} (hd : decode M.2.1 pc = .ok (.lsub, 1)) (r : rk_Run M B P (pc + 1) lv (.long (x - y) :: st) h u) : rk_Run M B P pc lv (.long y :: .long x :: st) h u := by
  intro l p e R s m args below meth c G H locs ls C hR hS hf hl
  exact lv_lsub C.1 C.2.1 hd (r l p e R s m args below meth c G H locs ls C hR hS hf hl)
theorem rk_lmul {x y : Int64} (hd : decode M.2.1 pc = .ok (.lmul, 1)) (r : rk_Run M B P (pc + 1) lv (.long (x * y) :: st) h u) : rk_Run M B P pc lv (.long y :: .long x :: st) h u := by
  intro l p e R s m args below meth c G H locs ls C hR hS hf hl
  exact lv_lmul C.1 C.2.1 hd (r l p e R s m args below meth c G H locs ls C hR hS hf hl)
theorem rk_land {x y : Int64} (hd : decode M.2.1 pc = .ok (.land, 1)) (r : rk_Run M B P (pc + 1) lv (.long (x &&& y) :: st) h u) : rk_Run M B P pc lv (.long y :: .long x :: st) h u := by
  intro l p e R s m args below meth c G H locs ls C hR hS hf hl
  exact lv_land C.1 C.2.1 hd (r l p e R s m args below meth c G H locs ls C hR hS hf hl)
theorem rk_lor {x y : Int64} (hd : decode M.2.1 pc = .ok (.lor, 1)) (r : rk_Run M B P (pc + 1) lv (.long (x ||| y) :: st) h u) : rk_Run M B P pc lv (.long y :: .long x :: st) h u := by
  intro l p e R s m args below meth c G H locs ls C hR hS hf hl
  exact lv_lor C.1 C.2.1 hd (r l p e R s m args below meth c G H locs ls C hR hS hf hl)
theorem rk_lxor {x y : Int64} (hd : decode M.2.1 pc = .ok (.lxor, 1)) (r : rk_Run M B P (pc + 1) lv (.long (x ^^^ y) :: st) h u) : rk_Run M B P pc lv (.long y :: .long x :: st) h u := by
  intro l p e R s m args below meth c G H locs ls C hR hS hf hl
  exact lv_lxor C.1 C.2.1 hd (r l p e R s m args below meth c G H locs ls C hR hS hf hl)
theorem rk_ldiv {x y : Int64} (hd : decode M.2.1 pc = .ok (.ldiv, 1)) (hne : ¬ y = 0) (r : rk_Run M B P (pc + 1) lv (.long (x / y) :: st) h u) : rk_Run M B P pc lv (.long y :: .long x :: st) h u := by
  intro l p e R s m args below meth c G H locs ls C hR hS hf hl
  exact lv_ldiv C.1 C.2.1 hd hne (r l p e R s m args below meth c G H locs ls C hR hS hf hl)
theorem rk_lneg {x : Int64} (hd : decode M.2.1 pc = .ok (.lneg, 1)) (r : rk_Run M B P (pc + 1) lv (.long (-x) :: st) h u) : rk_Run M B P pc lv (.long x :: st) h u := by
  intro l p e R s m args below meth c G H locs ls C hR hS hf hl
  exact lv_lneg C.1 C.2.1 hd (r l p e R s m args below meth c G H locs ls C hR hS hf hl)
theorem rk_ishl {x y : Int32} (hd : decode M.2.1 pc = .ok (.ishl, 1)) (r : rk_Run M B P (pc + 1) lv (.int (x <<< (y &&& 31)) :: st) h u) : rk_Run M B P pc lv (.int y :: .int x :: st) h u := by
  intro l p e R s m args below meth c G H locs ls C hR hS hf hl
  exact lv_ishl C.1 C.2.1 hd (r l p e R s m args below meth c G H locs ls C hR hS hf hl)
theorem rk_ishr {x y : Int32} (hd : decode M.2.1 pc = .ok (.ishr, 1)) (r : rk_Run M B P (pc + 1) lv (.int (x >>> (y &&& 31)) :: st) h u) : rk_Run M B P pc lv (.int y :: .int x :: st) h u := by
  intro l p e R s m args below meth c G H locs ls C hR hS hf hl
  exact lv_ishr C.1 C.2.1 hd (r l p e R s m args below meth c G H locs ls C hR hS hf hl)
theorem rk_lshl {x : Int64} {y : Int32} (hd : decode M.2.1 pc = .ok (.lshl, 1)) (r : rk_Run M B P (pc + 1) lv (.long (x <<< (y.toInt64 &&& 63)) :: st) h u) : rk_Run M B P pc lv (.int y :: .long x :: st) h u := by
  intro l p e R s m args below meth c G H locs ls C hR hS hf hl
  exact lv_lshl C.1 C.2.1 hd rfl (r l p e R s m args below meth c G H locs ls C hR hS hf hl)
theorem rk_lshr {x : Int64} {y : Int32} (hd : decode M.2.1 pc = .ok (.lshr, 1)) (r : rk_Run M B P (pc + 1) lv (.long (x >>> (y.toInt64 &&& 63)) :: st) h u) : rk_Run M B P pc lv (.int y :: .long x :: st) h u := by
  intro l p e R s m args below meth c G H locs ls C hR hS hf hl
  exact lv_lshr C.1 C.2.1 hd rfl (r l p e R s m args below meth c G H locs ls C hR hS hf hl)
theorem rk_i2l {x : Int32} (hd : decode M.2.1 pc = .ok (.i2l, 1)) (r : rk_Run M B P (pc + 1) lv (.long x.toInt64 :: st) h u) : rk_Run M B P pc lv (.int x :: st) h u := by
  intro l p e R s m args below meth c G H locs ls C hR hS hf hl
  exact lv_i2l C.1 C.2.1 hd rfl (r l p e R s m args below meth c G H locs ls C hR hS hf hl)
theorem rk_l2i {x : Int64} (hd : decode M.2.1 pc = .ok (.l2i, 1)) (r : rk_Run M B P (pc + 1) lv (.int x.toInt32 :: st) h u) : rk_Run M B P pc lv (.long x :: st) h u := by
  intro l p e R s m args below meth c G H locs ls C hR hS hf hl
  exact lv_l2i C.1 C.2.1 hd rfl (r l p e R s m args below meth c G H locs ls C hR hS hf hl)
theorem rk_i2b {x : Int32} (hd : decode M.2.1 pc = .ok (.i2b, 1)) (r : rk_Run M B P (pc + 1) lv (.int x.toInt8.toInt32 :: st) h u) : rk_Run M B P pc lv (.int x :: st) h u := by
  intro l p e R s m args below meth c G H locs ls C hR hS hf hl
  exact lv_i2b C.1 C.2.1 hd rfl (r l p e R s m args below meth c G H locs ls C hR hS hf hl)
theorem rk_i2d {x : Int32} (hd : decode M.2.1 pc = .ok (.i2d, 1)) (r : rk_Run M B P (pc + 1) lv (.double (FP.i2d x) :: st) h u) : rk_Run M B P pc lv (.int x :: st) h u := by
  intro l p e R s m args below meth c G H locs ls C hR hS hf hl
  exact lv_i2d C.1 C.2.1 hd (r l p e R s m args below meth c G H locs ls C hR hS hf hl)
theorem rk_l2d {x : Int64} (hd : decode M.2.1 pc = .ok (.l2d, 1)) (r : rk_Run M B P (pc + 1) lv (.double (FP.l2d x) :: st) h u) : rk_Run M B P pc lv (.long x :: st) h u := by
  intro l p e R s m args below meth c G H locs ls C hR hS hf hl
  exact lv_l2d C.1 C.2.1 hd (r l p e R s m args below meth c G H locs ls C hR hS hf hl)
theorem rk_d2l {x : UInt64} (hd : decode M.2.1 pc = .ok (.d2l, 1)) (r : rk_Run M B P (pc + 1) lv (.long (FP.d2l x) :: st) h u) : rk_Run M B P pc lv (.double x :: st) h u := by
  intro l p e R s m args below meth c G H locs ls C hR hS hf hl
  exact lv_d2l C.1 C.2.1 hd (r l p e R s m args below meth c G H locs ls C hR hS hf hl)
theorem rk_d2i {x : UInt64} (hd : decode M.2.1 pc = .ok (.d2i, 1)) (r : rk_Run M B P (pc + 1) lv (.int (FP.d2i x) :: st) h u) : rk_Run M B P pc lv (.double x :: st) h u := by
  intro l p e R s m args below meth c G H locs ls C hR hS hf hl
  exact lv_d2i C.1 C.2.1 hd (r l p e R s m args below meth c G H locs ls C hR hS hf hl)
theorem rk_dadd {x y : UInt64} (hd : decode M.2.1 pc = .ok (.dadd, 1)) (hne : vf_n64 (FP.dadd x y)) (r : rk_Run M B P (pc + 1) lv (.double (FP.dadd x y) :: st) h u) : rk_Run M B P pc lv (.double y :: .double x :: st) h u := by
  intro l p e R s m args below meth c G H locs ls C hR hS hf hl
  exact lv_dadd C.1 C.2.1 hd hne (r l p e R s m args below meth c G H locs ls C hR hS hf hl)
theorem rk_dsub {x y : UInt64} (hd : decode M.2.1 pc = .ok (.dsub, 1)) (hne : vf_n64 (FP.dsub x y)) (r : rk_Run M B P (pc + 1) lv (.double (FP.dsub x y) :: st) h u) : rk_Run M B P pc lv (.double y :: .double x :: st) h u := by
  intro l p e R s m args below meth c G H locs ls C hR hS hf hl
  exact lv_dsub C.1 C.2.1 hd hne (r l p e R s m args below meth c G H locs ls C hR hS hf hl)
theorem rk_dmul {x y : UInt64} (hd : decode M.2.1 pc = .ok (.dmul, 1)) (hne : vf_n64 (FP.dmul x y)) (r : rk_Run M B P (pc + 1) lv (.double (FP.dmul x y) :: st) h u) : rk_Run M B P pc lv (.double y :: .double x :: st) h u := by
  intro l p e R s m args below meth c G H locs ls C hR hS hf hl
  exact lv_dmul C.1 C.2.1 hd hne (r l p e R s m args below meth c G H locs ls C hR hS hf hl)
theorem rk_ddiv {x y : UInt64} (hd : decode M.2.1 pc = .ok (.ddiv, 1)) (hne : vf_n64 (FP.ddiv x y)) (r : rk_Run M B P (pc + 1) lv (.double (FP.ddiv x y) :: st) h u) : rk_Run M B P pc lv (.double y :: .double x :: st) h u := by
  intro l p e R s m args below meth c G H locs ls C hR hS hf hl
  exact lv_ddiv C.1 C.2.1 hd hne (r l p e R s m args below meth c G H locs ls C hR hS hf hl)
theorem rk_dcmp {x y : UInt64} {op : CmpOp} (hd : decode M.2.1 pc = .ok (.dcmp op, 1)) (r : rk_Run M B P (pc + 1) lv (.int (Op.cmpValue (FP.dcmp x y) op) :: st) h u) : rk_Run M B P pc lv (.double y :: .double x :: st) h u := by
  intro l p e R s m args below meth c G H locs ls C hR hS hf hl
  exact lv_dcmp C.1 C.2.1 hd (r l p e R s m args below meth c G H locs ls C hR hS hf hl)
theorem rk_dconst0  (hd : decode M.2.1 pc = .ok (.dconst 0, 1)) (r : rk_Run M B P (pc + 1) lv (.double FP.dconst0 :: st) h u) : rk_Run M B P pc lv st h u := by
  intro l p e R s m args below meth c G H locs ls C hR hS hf hl
  exact lv_dconst0 C.1 C.2.1 hd (r l p e R s m args below meth c G H locs ls C hR hS hf hl)
theorem rk_dconst1  (hd : decode M.2.1 pc = .ok (.dconst 1, 1)) (r : rk_Run M B P (pc + 1) lv (.double FP.dconst1 :: st) h u) : rk_Run M B P pc lv st h u := by
  intro l p e R s m args below meth c G H locs ls C hR hS hf hl
  exact lv_dconst1 C.1 C.2.1 hd (r l p e R s m args below meth c G H locs ls C hR hS hf hl)
theorem rk_null  (hd : decode M.2.1 pc = .ok (.aconst_null, 1)) (r : rk_Run M B P (pc + 1) lv (.null :: st) h u) : rk_Run M B P pc lv st h u := by
  intro l p e R s m args below meth c G H locs ls C hR hS hf hl
  exact lv_null C.1 C.2.1 hd (r l p e R s m args below meth c G H locs ls C hR hS hf hl)
theorem rk_dup {va : Value} (hd : decode M.2.1 pc = .ok (.dup, 1)) (h1 : va.category = 1) (r : rk_Run M B P (pc + 1) lv (va :: va :: st) h u) : rk_Run M B P pc lv (va :: st) h u := by
  intro l p e R s m args below meth c G H locs ls C hR hS hf hl
  exact lv_dup C.1 C.2.1 hd h1 (r l p e R s m args below meth c G H locs ls C hR hS hf hl)
theorem rk_pop {va : Value} (hd : decode M.2.1 pc = .ok (.pop, 1)) (h1 : va.category = 1) (r : rk_Run M B P (pc + 1) lv st h u) : rk_Run M B P pc lv (va :: st) h u := by
  intro l p e R s m args below meth c G H locs ls C hR hS hf hl
  exact lv_pop C.1 C.2.1 hd h1 (r l p e R s m args below meth c G H locs ls C hR hS hf hl)
theorem rk_dup_x1 {va vb : Value} (hd : decode M.2.1 pc = .ok (.dup_x1, 1)) (h1 : va.category = 1) (h2 : vb.category = 1) (r : rk_Run M B P (pc + 1) lv (va :: vb :: va :: st) h u) : rk_Run M B P pc lv (va :: vb :: st) h u := by
  intro l p e R s m args below meth c G H locs ls C hR hS hf hl
  exact lv_dup_x1 C.1 C.2.1 hd h1 h2 (r l p e R s m args below meth c G H locs ls C hR hS hf hl)
theorem rk_dup_x2 {va vb vd : Value} (hd : decode M.2.1 pc = .ok (.dup_x2, 1)) (h1 : va.category = 1) (h2 : vb.category = 1) (h3 : vd.category = 1) (r : rk_Run M B P (pc + 1) lv (va :: vb :: vd :: va :: st) h u) : rk_Run M B P pc lv (va :: vb :: vd :: st) h u := by
  intro l p e R s m args below meth c G H locs ls C hR hS hf hl
  exact lv_dup_x2 C.1 C.2.1 hd h1 h2 h3 (r l p e R s m args below meth c G H locs ls C hR hS hf hl)
theorem rk_dup2 {va vb : Value} (hd : decode M.2.1 pc = .ok (.dup2, 1)) (h1 : va.category = 1) (h2 : vb.category = 1) (r : rk_Run M B P (pc + 1) lv (va :: vb :: va :: vb :: st) h u) : rk_Run M B P pc lv (va :: vb :: st) h u := by
  intro l p e R s m args below meth c G H locs ls C hR hS hf hl
  exact lv_dup2_11 C.1 C.2.1 hd h1 h2 (r l p e R s m args below meth c G H locs ls C hR hS hf hl)
theorem rk_dup2w {va : Value} (hd : decode M.2.1 pc = .ok (.dup2, 1)) (h1 : va.category = 2) (r : rk_Run M B P (pc + 1) lv (va :: va :: st) h u) : rk_Run M B P pc lv (va :: st) h u := by
  intro l p e R s m args below meth c G H locs ls C hR hS hf hl
  exact lv_dup2_2 C.1 C.2.1 hd h1 (r l p e R s m args below meth c G H locs ls C hR hS hf hl)
theorem rk_pop2w {va : Value} (hd : decode M.2.1 pc = .ok (.pop2, 1)) (h1 : va.category = 2) (r : rk_Run M B P (pc + 1) lv st h u) : rk_Run M B P pc lv (va :: st) h u := by
  intro l p e R s m args below meth c G H locs ls C hR hS hf hl
  exact lv_pop2_2 C.1 C.2.1 hd h1 (r l p e R s m args below meth c G H locs ls C hR hS hf hl)
theorem rk_lcmp {x y : Int64} (hd : decode M.2.1 pc = .ok (.lcmp, 1)) (r : rk_Run M B P (pc + 1) lv (.int (lg_cmp x y) :: st) h u) : rk_Run M B P pc lv (.long y :: .long x :: st) h u := by
  intro l p e R s m args below meth c G H locs ls C hR hS hf hl
  exact W.lcmp C.1 C.2.1 hd (r l p e R s m args below meth c G H locs ls C hR hS hf hl)
theorem rk_if_eq {x : Int32} {off : Int} (tgt : Nat) (hd : decode M.2.1 pc = .ok (.ifCond .eq off, 3)) (ht : (pc : Int) + off = (tgt : Int)) (rt : x = 0 → rk_Run M B P tgt lv st h u) (rf : ¬ (x = 0) → rk_Run M B P (pc + 3) lv st h u) : rk_Run M B P pc lv (.int x :: st) h u := by
  intro l p e R s m args below meth c G H locs ls C hR hS hf hl
  exact lv_if_eq C.1 C.2.1 hd ht (fun q => rt q l p e R s m args below meth c G H locs ls C hR hS hf hl) (fun q => rf q l p e R s m args below meth c G H locs ls C hR hS hf hl)
theorem rk_icmp_eq {x y : Int32} {off : Int} (tgt : Nat) (hd : decode M.2.1 pc = .ok (.if_icmp .eq off, 3)) (ht : (pc : Int) + off = (tgt : Int)) (rt : x = y → rk_Run M B P tgt lv st h u) (rf : ¬ (x = y) → rk_Run M B P (pc + 3) lv st h u) : rk_Run M B P pc lv (.int y :: .int x :: st) h u := by
  intro l p e R s m args below meth c G H locs ls C hR hS hf hl
  exact lv_icmp_eq C.1 C.2.1 hd ht (fun q => rt q l p e R s m args below meth c G H locs ls C hR hS hf hl) (fun q => rf q l p e R s m args below meth c G H locs ls C hR hS hf hl)
theorem rk_if_ne {x : Int32} {off : Int} (tgt : Nat) (hd : decode M.2.1 pc = .ok (.ifCond .ne off, 3)) (ht : (pc : Int) + off = (tgt : Int)) (rt : ¬ x = 0 → rk_Run M B P tgt lv st h u) (rf : x = 0 → rk_Run M B P (pc + 3) lv st h u) : rk_Run M B P pc lv (.int x :: st) h u := by
  intro l p e R s m args below meth c G H locs ls C hR hS hf hl
  exact lv_if_ne C.1 C.2.1 hd ht (fun q => rt q l p e R s m args below meth c G H locs ls C hR hS hf hl) (fun q => rf q l p e R s m args below meth c G H locs ls C hR hS hf hl)
theorem rk_icmp_ne {x y : Int32} {off : Int} (tgt : Nat) (hd : decode M.2.1 pc = .ok (.if_icmp .ne off, 3)) (ht : (pc : Int) + off = (tgt : Int)) (rt : ¬ x = y → rk_Run M B P tgt lv st h u) (rf : x = y → rk_Run M B P (pc + 3) lv st h u) : rk_Run M B P pc lv (.int y :: .int x :: st) h u := by
  intro l p e R s m args below meth c G H locs ls C hR hS hf hl
  exact lv_icmp_ne C.1 C.2.1 hd ht (fun q => rt q l p e R s m args below meth c G H locs ls C hR hS hf hl) (fun q => rf q l p e R s m args below meth c G H locs ls C hR hS hf hl)
theorem rk_if_lt {x : Int32} {off : Int} (tgt : Nat) (hd : decode M.2.1 pc = .ok (.ifCond .lt off, 3)) (ht : (pc : Int) + off = (tgt : Int)) (rt : x < 0 → rk_Run M B P tgt lv st h u) (rf : ¬ (x < 0) → rk_Run M B P (pc + 3) lv st h u) : rk_Run M B P pc lv (.int x :: st) h u := by
  intro l p e R s m args below meth c G H locs ls C hR hS hf hl
  exact lv_if_lt C.1 C.2.1 hd ht (fun q => rt q l p e R s m args below meth c G H locs ls C hR hS hf hl) (fun q => rf q l p e R s m args below meth c G H locs ls C hR hS hf hl)
theorem rk_icmp_lt {x y : Int32} {off : Int} (tgt : Nat) (hd : decode M.2.1 pc = .ok (.if_icmp .lt off, 3)) (ht : (pc : Int) + off = (tgt : Int)) (rt : x < y → rk_Run M B P tgt lv st h u) (rf : ¬ (x < y) → rk_Run M B P (pc + 3) lv st h u) : rk_Run M B P pc lv (.int y :: .int x :: st) h u := by
  intro l p e R s m args below meth c G H locs ls C hR hS hf hl
  exact lv_icmp_lt C.1 C.2.1 hd ht (fun q => rt q l p e R s m args below meth c G H locs ls C hR hS hf hl) (fun q => rf q l p e R s m args below meth c G H locs ls C hR hS hf hl)
theorem rk_if_ge {x : Int32} {off : Int} (tgt : Nat) (hd : decode M.2.1 pc = .ok (.ifCond .ge off, 3)) (ht : (pc : Int) + off = (tgt : Int)) (rt : 0 ≤ x → rk_Run M B P tgt lv st h u) (rf : ¬ (0 ≤ x) → rk_Run M B P (pc + 3) lv st h u) : rk_Run M B P pc lv (.int x :: st) h u := by
  intro l p e R s m args below meth c G H locs ls C hR hS hf hl
  exact lv_if_ge C.1 C.2.1 hd ht (fun q => rt q l p e R s m args below meth c G H locs ls C hR hS hf hl) (fun q => rf q l p e R s m args below meth c G H locs ls C hR hS hf hl)
theorem rk_icmp_ge {x y : Int32} {off : Int} (tgt : Nat) (hd : decode M.2.1 pc = .ok (.if_icmp .ge off, 3)) (ht : (pc : Int) + off = (tgt : Int)) (rt : y ≤ x → rk_Run M B P tgt lv st h u) (rf : ¬ (y ≤ x) → rk_Run M B P (pc + 3) lv st h u) : rk_Run M B P pc lv (.int y :: .int x :: st) h u := by
  intro l p e R s m args below meth c G H locs ls C hR hS hf hl
  exact lv_icmp_ge C.1 C.2.1 hd ht (fun q => rt q l p e R s m args below meth c G H locs ls C hR hS hf hl) (fun q => rf q l p e R s m args below meth c G H locs ls C hR hS hf hl)
theorem rk_if_gt {x : Int32} {off : Int} (tgt : Nat) (hd : decode M.2.1 pc = .ok (.ifCond .gt off, 3)) (ht : (pc : Int) + off = (tgt : Int)) (rt : 0 < x → rk_Run M B P tgt lv st h u) (rf : ¬ (0 < x) → rk_Run M B P (pc + 3) lv st h u) : rk_Run M B P pc lv (.int x :: st) h u := by
  intro l p e R s m args below meth c G H locs ls C hR hS hf hl
  exact lv_if_gt C.1 C.2.1 hd ht (fun q => rt q l p e R s m args below meth c G H locs ls C hR hS hf hl) (fun q => rf q l p e R s m args below meth c G H locs ls C hR hS hf hl)
theorem rk_icmp_gt {x y : Int32} {off : Int} (tgt : Nat) (hd : decode M.2.1 pc = .ok (.if_icmp .gt off, 3)) (ht : (pc : Int) + off = (tgt : Int)) (rt : y < x → rk_Run M B P tgt lv st h u) (rf : ¬ (y < x) → rk_Run M B P (pc + 3) lv st h u) : rk_Run M B P pc lv (.int y :: .int x :: st) h u := by
  intro l p e R s m args below meth c G H locs ls C hR hS hf hl
  exact lv_icmp_gt C.1 C.2.1 hd ht (fun q => rt q l p e R s m args below meth c G H locs ls C hR hS hf hl) (fun q => rf q l p e R s m args below meth c G H locs ls C hR hS hf hl)
theorem rk_if_le {x : Int32} {off : Int} (tgt : Nat) (hd : decode M.2.1 pc = .ok (.ifCond .le off, 3)) (ht : (pc : Int) + off = (tgt : Int)) (rt : x ≤ 0 → rk_Run M B P tgt lv st h u) (rf : ¬ (x ≤ 0) → rk_Run M B P (pc + 3) lv st h u) : rk_Run M B P pc lv (.int x :: st) h u := by
  intro l p e R s m args below meth c G H locs ls C hR hS hf hl
  exact lv_if_le C.1 C.2.1 hd ht (fun q => rt q l p e R s m args below meth c G H locs ls C hR hS hf hl) (fun q => rf q l p e R s m args below meth c G H locs ls C hR hS hf hl)
theorem rk_icmp_le {x y : Int32} {off : Int} (tgt : Nat) (hd : decode M.2.1 pc = .ok (.if_icmp .le off, 3)) (ht : (pc : Int) + off = (tgt : Int)) (rt : x ≤ y → rk_Run M B P tgt lv st h u) (rf : ¬ (x ≤ y) → rk_Run M B P (pc + 3) lv st h u) : rk_Run M B P pc lv (.int y :: .int x :: st) h u := by
  intro l p e R s m args below meth c G H locs ls C hR hS hf hl
  exact lv_icmp_le C.1 C.2.1 hd ht (fun q => rt q l p e R s m args below meth c G H locs ls C hR hS hf hl) (fun q => rf q l p e R s m args below meth c G H locs ls C hR hS hf hl)
theorem rk_goto {off : Int} (tgt : Nat) (hd : decode M.2.1 pc = .ok (.goto off, 3)) (ht : (pc : Int) + off = (tgt : Int)) (r : rk_Run M B P tgt lv st h u) : rk_Run M B P pc lv st h u := by
  intro l p e R s m args below meth c G H locs ls C hR hS hf hl
  exact lv_goto C.1 C.2.1 hd ht (r l p e R s m args below meth c G H locs ls C hR hS hf hl)
theorem rk_tableIn {dflt lo hi : Int} {offs : Array Int} {len : Nat} {x : Int32} {off : Int} (tgt : Nat) (hd : decode M.2.1 pc = .ok (.tableswitch dflt lo hi offs, len)) (h1 : ¬ x.toInt < lo) (h2 : ¬ hi < x.toInt) (ho : offs[(x.toInt - lo).toNat]? = some off) (ht : (pc : Int) + off = (tgt : Int)) (r : rk_Run M B P tgt lv st h u) : rk_Run M B P pc lv (.int x :: st) h u := by
  intro l p e R s m args below meth c G H locs ls C hR hS hf hl
  exact lv_tableIn C.1 C.2.1 hd h1 h2 ho ht (r l p e R s m args below meth c G H locs ls C hR hS hf hl)
theorem rk_tableOut {dflt lo hi : Int} {offs : Array Int} {len : Nat} {x : Int32} (tgt : Nat) (hd : decode M.2.1 pc = .ok (.tableswitch dflt lo hi offs, len)) (h1 : x.toInt < lo ∨ hi < x.toInt) (ht : (pc : Int) + dflt = (tgt : Int)) (r : rk_Run M B P tgt lv st h u) : rk_Run M B P pc lv (.int x :: st) h u := by
  intro l p e R s m args below meth c G H locs ls C hR hS hf hl
  exact lv_tableOut C.1 C.2.1 hd h1 ht (r l p e R s m args below meth c G H locs ls C hR hS hf hl)
theorem rk_lookup {dflt : Int} {ps : Array (Int × Int)} {len : Nat} {x : Int32} {off : Int} (tgt : Nat) (hd : decode M.2.1 pc = .ok (.lookupswitch dflt ps, len)) (hp : (ps.toList.zip (ps.toList.drop 1)).all (fun (a, next) => a.1 < next.1) = true) (ho : Op.lookupswitch.offset ps.toList dflt x.toInt = off) (ht : (pc : Int) + off = (tgt : Int)) (r : rk_Run M B P tgt lv st h u) : rk_Run M B P pc lv (.int x :: st) h u := by
  intro l p e R s m args below meth c G H locs ls C hR hS hf hl
  exact lv_lookup C.1 C.2.1 hd hp ho ht (r l p e R s m args below meth c G H locs ls C hR hS hf hl)
theorem rk_ifnonnull {x : Nat} {off : Int} (tgt : Nat) (hd : decode M.2.1 pc = .ok (.ifnonnull off, 3)) (ht : (pc : Int) + off = (tgt : Int)) (r : rk_Run M B P tgt lv st h u) : rk_Run M B P pc lv (.ref x :: st) h u := by
  intro l p e R s m args below meth c G H locs ls C hR hS hf hl
  exact lv_ifnonnull C.1 C.2.1 hd ht (r l p e R s m args below meth c G H locs ls C hR hS hf hl)
theorem rk_ifnull {x : Nat} {off : Int} (hd : decode M.2.1 pc = .ok (.ifnull off, 3)) (r : rk_Run M B P (pc + 3) lv st h u) : rk_Run M B P pc lv (.ref x :: st) h u := by
  intro l p e R s m args below meth c G H locs ls C hR hS hf hl
  exact lv_ifnull C.1 C.2.1 hd (r l p e R s m args below meth c G H locs ls C hR hS hf hl)
theorem rk_ldc {idx : Nat} {v : Int32} (hw : Cond.constant M.1.cls idx v ∈ rk_tbl) (hd : decode M.2.1 pc = .ok (.ldc idx, 2)) (r : rk_Run M B P (pc + 2) lv (.int v :: st) h u) : rk_Run M B P pc lv st h u := by
  intro l p e R s m args below meth c G H locs ls C hR hS hf hl
  exact lv_ldc C.1 C.2.1 C.2.2.2.2.2.1 (C.2.2.2.2.2.2.1 _ hw) hd (r l p e R s m args below meth c G H locs ls C hR hS hf hl)
theorem rk_ldc2 {idx : Nat} {v : Int64} (hw : Cond.constantLong M.1.cls idx v ∈ rk_tbl) (hd : decode M.2.1 pc = .ok (.ldc2_w idx, 3)) (r : rk_Run M B P (pc + 3) lv (.long v :: st) h u) : rk_Run M B P pc lv st h u := by
  intro l p e R s m args below meth c G H locs ls C hR hS hf hl
  exact lv_ldc2 C.1 C.2.1 C.2.2.2.2.2.1 (C.2.2.2.2.2.2.1 _ hw) hd (r l p e R s m args below meth c G H locs ls C hR hS hf hl)
theorem rk_ldc2d {idx : Nat} {v : UInt64} (hw : Cond.constantDouble M.1.cls idx v ∈ rk_tbl) (hd : decode M.2.1 pc = .ok (.ldc2_w idx, 3)) (r : rk_Run M B P (pc + 3) lv (.double v :: st) h u) : rk_Run M B P pc lv st h u := by
  intro l p e R s m args below meth c G H locs ls C hR hS hf hl
  exact lv_ldc2d C.1 C.2.1 C.2.2.2.2.2.1 (C.2.2.2.2.2.2.1 _ hw) hd (r l p e R s m args below meth c G H locs ls C hR hS hf hl)
theorem rk_Kva {G : rk_G} {s : State} (hK : rk_K G s) : va_K G.2.1 vwCl [] s := ⟨hK.1, fun k q hq => by simp at hq⟩
theorem rk_lc {G : rk_G} {locs : List Loc} {a i : Nat} (hf : ∀ q ∈ locs, G.1 ≤ q.base) (ha : G.1 ≤ a) : ∀ q ∈ locs ++ [(⟨a, i⟩ : Loc)], G.1 ≤ q.base := by
  intro q hq
  rcases List.mem_append.mp hq with h1 | h1
  · exact hf q h1
  · rw [List.mem_singleton] at h1
    subst h1
    exact ha
/-- a class of the list, with the types of its fields -/
def rk_cls (ci : Nat) (C : String) (T : u_T) (N : Nat) (ty0 : Nat → FieldType) : Prop := vwCl[ci]? = some (C, T, N) ∧ (∀ w ∈ u_ws C T N, w ∈ rk_tbl) ∧ (∀ k, k < N → parseFieldDescriptor (T k).2.2.1 = some (ty0 k)) ∧ (∀ a, a < N → ∀ b, b < N → a ≠ b → (T a).2.1 ≠ (T b).2.1)
def rk_fl (own : String) (idx ci kf : Nat) : Prop := ∃ (C : String) (T : u_T) (N : Nat) (ty0 : Nat → FieldType), rk_cls ci C T N ty0 ∧ kf < N ∧ Cond.fieldLink own idx (T kf).1 (T kf).2.1 (T kf).2.2.1 ∈ rk_tbl
def rk_pl (own : String) (idx ci kf : Nat) (ty : FieldType) : Prop := ∃ (C : String) (T : u_T) (N : Nat) (ty0 : Nat → FieldType), rk_cls ci C T N ty0 ∧ kf < N ∧ Cond.fieldLink own idx (T kf).1 (T kf).2.1 (T kf).2.2.1 ∈ rk_tbl ∧ (T kf).2.2.2 = false ∧ ty0 kf = ty
def rk_pF (own : String) (idx ci kf : Nat) (ty : FieldType) : Prop := ∃ (C : String) (T : u_T) (N : Nat) (ty0 : Nat → FieldType), rk_cls ci C T N ty0 ∧ kf < N ∧ Cond.fieldLink own idx (T kf).1 (T kf).2.1 (T kf).2.2.1 ∈ rk_tbl ∧ (T kf).2.2.2 = true ∧ (T kf).1 = own ∧ ty0 kf = ty
theorem rk_getf {idx ci kf a : Nat} {fs : List Value} {v : Value} (f : rk_fl M.1.cls idx ci kf) (hd : decode M.2.1 pc = .ok (.getfield idx, 3)) (he : h a = some (oB ci fs)) (hv : fs[kf]? = some v) (r : rk_Run M B P (pc + 3) lv (v :: st) h u) : rk_Run M B P pc lv (.ref a :: st) h u := by
  intro l p e R s m args below meth c G H locs ls C hR hS hf hl
  obtain ⟨C0, T, N, ty0, ⟨hc, hin, -, -⟩, hk, hw⟩ := f
  have hts := C.2.2.2.2.2.2.1
  exact va_get (D := G.2.1) (cl := vwCl) (ws := [(a, .inr (ci, fs))]) C.1 C.2.1 hts hin C.2.2.2.2.2.1 (rk_Kva C.2.2.2.2.2.2.2.1) (fun j q hj => by
    cases j with
    | zero => cases hj; exact (hR a _ he).2
    | succ j => simp at hj) 0 rfl hc kf hk (hts _ hw) (fun _ h9 => h9) hv hd (r l p e R s m args below meth c G H locs ls C hR hS hf hl)
theorem rk_putf {idx ci kf a : Nat} {fs : List Value} {v : Value} {ty : FieldType} (f : rk_pl M.1.cls idx ci kf ty) (hd : decode M.2.1 pc = .ok (.putfield idx, 3)) (he : h a = some (oB ci fs)) (hlen : kf < fs.length) (hnr : narrow ty v = v) (hfit : fits ty v = true) (r : rk_Run M B P (pc + 3) lv st (rk_up h a (oB ci (fs.set kf v))) u) : rk_Run M B P pc lv (v :: .ref a :: st) h u := by
  intro l p e R s m args below meth c G H locs ls C hR hS hf hl
  obtain ⟨C0, T, N, ty0, ⟨hc, hin, hty, hnm⟩, hk, hw, hfin, hte⟩ := f
  have hts := C.2.2.2.2.2.2.1
  have hK := rk_Kva C.2.2.2.2.2.2.2.1
  have hap := va_apart (own := M.1.cls) hts hin ty0 hty hnm hK hc
  obtain ⟨r0, h1, cell, q1, q2, q3, q4⟩ := (hR a _ he).2
  have hr : r0 = (C0, T, N) := Option.some.inj (h1.symm.trans hc)
  subst hr
  obtain ⟨hSl, hfc, kC, hkC, hkind⟩ := hK.1 ci _ hc
  obtain ⟨cf, kf', fi, f, hi, hsl⟩ := hSl kf hk
  have hlay := hts _ (hin _ (u_in_lay hk))
  unfold u_lay at hlay
  rw [if_neg (by rw [hfin]; decide)] at hlay
  have hst := (u_facts hfc hkC (u_lays hts hin hk) hi).1
  have h6 := u_store hfc hkC hkind hlay hi (hty kf hk) (by rw [hte]; exact hnr) (by rw [hte]; exact hfit)
  refine W.putK C.1 C.2.1 (f := f) ⟨C.2.2.2.2.2.1, hts _ hw, ⟨_, _, _, hi⟩, hst⟩ (by rw [q2]; exact h6) q1 q3 (by rw [hsl]; exact k2_hasslot (q4 kf hk)) rfl rfl hd fun H' e1 e2 e3 => ?_
  rw [hsl] at e1 ⊢
  exact r l p e R s m args below meth c G H' _ ls C (hR.set (hR.wr he rfl) ⟨_, hc, t_OB.to (V := updV (vp_V fs) kf v) ⟨_, e1, q2, q3, t_set q4 hap hk v⟩ (fun j _ => vp_updV_set hlen v j)⟩ e3) (hS.put e2 e3 (hR.wr he rfl)) (rk_lc hf (hR.wr he rfl)) hl
theorem rk_putF {idx ci kf a : Nat} {fs : List Value} {v : Value} {ty : FieldType} (f : rk_pF M.1.cls idx ci kf ty) (hini : M.1.name = "<init>") (hd : decode M.2.1 pc = .ok (.putfield idx, 3)) (he : h a = some (oB ci fs)) (hlen : kf < fs.length) (hnr : narrow ty v = v) (hfit : fits ty v = true) (r : rk_Run M B P (pc + 3) lv st (rk_up h a (oB ci (fs.set kf v))) u) : rk_Run M B P pc lv (v :: .ref a :: st) h u := by
  intro l p e R s m args below meth c G H locs ls C hR hS hf hl
  obtain ⟨C0, T, N, ty0, ⟨hc, hin, hty, hnm⟩, hk, hw, hfin, hdecl, hte⟩ := f
  have hts := C.2.2.2.2.2.2.1
  have hK := rk_Kva C.2.2.2.2.2.2.2.1
  have hown := C.2.2.2.2.2.1
  have hin2 : meth.name = "<init>" := C.2.2.2.2.2.2.2.2.2.2.2.2.2.1.trans hini
  have hap := va_apart (own := M.1.cls) hts hin ty0 hty hnm hK hc
  obtain ⟨r0, h1, cell, q1, q2, q3, q4⟩ := (hR a _ he).2
  have hr : r0 = (C0, T, N) := Option.some.inj (h1.symm.trans hc)
  subst hr
  obtain ⟨hSl, hfc, kC, hkC, hkind⟩ := hK.1 ci _ hc
  obtain ⟨cf, kf', fi, f, hi, hsl⟩ := hSl kf hk
  have hlay := hts _ (hin _ (u_in_lay hk))
  unfold u_lay at hlay
  rw [if_pos hfin] at hlay
  have hst := (u_facts hfc hkC (u_lays hts hin hk) hi).1
  have hcf : m.cls = cf := by
    obtain ⟨_, _, c', _, _, _, -, -, hf', -, -, -, hown2, -⟩ := Cond.laysFinal_spec hlay
    have e1 : c' = cf := by have := hi.symm.trans hf'; simp at this; exact this.1.symm
    rw [hdecl] at hown2
    rw [← e1]; exact Option.some.inj (hown.symm.trans hown2)
  have h6 := u_fits hfc hkC hkind (Or.inr hlay) hi (hty kf hk) (by rw [hte]; exact hnr) (by rw [hte]; exact hfit)
  refine W.putFinK C.1 C.2.1 hown (hts _ hw) hi hst hcf hin2 (by rw [q2]; exact h6) q1 q3 (by rw [hsl]; exact k2_hasslot (q4 kf hk)) rfl rfl hd fun H' e1 e2 e3 => ?_
  rw [hsl] at e1 ⊢
  exact r l p e R s m args below meth c G H' _ ls C (hR.set (hR.wr he rfl) ⟨_, hc, t_OB.to (V := updV (vp_V fs) kf v) ⟨_, e1, q2, q3, t_set q4 hap hk v⟩ (fun j _ => vp_updV_set hlen v j)⟩ e3) (hS.put e2 e3 (hR.wr he rfl)) (rk_lc hf (hR.wr he rfl)) hl
theorem rk_new {idx ci N : Nat} {C0 : String} {T : u_T} {ty0 : Nat → FieldType} {fs : List Value} (kc : rk_cls ci C0 T N ty0) (hw1 : Cond.classLink M.1.cls idx C0 ∈ rk_tbl) (hw2 : Cond.instantiable C0 N ∈ rk_tbl) (hw3 : Cond.initialized C0 ∈ rk_tbl) (hfs : ∀ j, j < N → defaultValue (ty0 j) = vp_V fs j) (hd : decode M.2.1 pc = .ok (.new idx, 3)) (hk : u.1 + 1 ≤ B.2.2.1) (hn : u.2 + N ≤ B.2.2.2)
    (r : ∀ q : Nat, h q = none → rk_Run M B P (pc + 3) lv (.ref q :: st) (rk_up h q (oB ci fs)) (u.1 + 1, u.2 + N)) : rk_Run M B P pc lv st h u := by
  intro l p e R s m args below meth c G H locs ls C hR hS hf hl
  obtain ⟨hc, hin, hty, hnm⟩ := kc
  have hts := C.2.2.2.2.2.2.1
  have hKn := C.2.2.2.2.2.2.2.1.1 ci _ hc
  have hcells := C.2.2.2.2.2.2.2.2.2.2.2.1
  have hslots := C.2.2.2.2.2.2.2.2.2.2.2.2.1
  refine W.newcK C.1 C.2.1 C.2.2.2.2.2.1 (hts _ hw1) (hts _ hw2) (hts _ hw3) rfl hd (Nat.le_trans hk hcells) (Nat.le_trans hn hslots) hKn.2.1 rfl fun H1 kC hkC e1 z1 o1 => ?_
  exact r H.size hR.fresh l p e R s m args below meth c G H1 locs ls C (hR.push hS.1.1 ⟨_, hc, (u_born ty0 hts hin hKn hkC e1 hty).to hfs⟩ o1) (hS.push z1 o1) hf hl
/-- the int array's kind is 0 in rk_ty -/
theorem rk_newi {N : Nat} {x : Int32} {at0 : ArrayType} (hat : newarray.typeOf at0 = .int) (hw : Cond.arrayClass .int ∈ rk_tbl) (hx : x = nI N) (hN : N < 100000) (hd : decode M.2.1 pc = .ok (.newarray at0, 2)) (hk : u.1 + 1 ≤ B.2.2.1) (hn : u.2 + N ≤ B.2.2.2)
    (r : ∀ q : Nat, h q = none → rk_Run M B P (pc + 2) lv (.ref q :: st) (rk_up h q (.inl (0, N, .inl (fun _ => 0)))) (u.1 + 1, u.2 + N)) : rk_Run M B P pc lv (.int x :: st) h u := by
  intro l p e R s m args below meth c G H locs ls C hR hS hf hl
  subst hx
  have hts := C.2.2.2.2.2.2.1
  have hcells := C.2.2.2.2.2.2.2.2.2.2.2.1
  have hslots := C.2.2.2.2.2.2.2.2.2.2.2.2.1
  refine va_newaK C.1 C.2.1 (atype := at0) (by rw [hat]; exact hts _ hw) rfl hd rfl (nI_pos (by omega)) (nI_clamp (by omega)) (by rw [hat]; show N * 4 ≤ _; omega) (Nat.le_trans hk hcells) (Nat.le_trans hn hslots) rfl fun H1 cA e1 z1 o1 _ hNm => ?_
  rw [hat] at e1 hNm
  have hcA : cA = G.2.2 0 := Option.some.inj (hNm.symm.trans (show s.vm.findClass ("[" ++ FieldType.int.toString) = some (G.2.2 0) from (C.2.2.2.2.2.2.2.1.2.1 0 .int rfl).2))
  subst hcA
  exact r H.size hR.fresh l p e R s m args below meth c G H1 locs ls C (hR.push hS.1.1 (show H1[H.size]? = some (vp_cell (G.2.2 0) (N, .inl (fun _ => 0))) from e1) o1) (hS.push z1 o1) hf hl
theorem rk_iald {a N : Nat} {f : Nat → Int32} {i : Int32} (hd : decode M.2.1 pc = .ok (.iaload, 1)) (he : h a = some (.inl (0, N, .inl f))) (hi : vp_in i N) (r : rk_Run M B P (pc + 1) lv (.int (f i.toNatClampNeg) :: st) h u) : rk_Run M B P pc lv (.int i :: .ref a :: st) h u := by
  intro l p e R s m args below meth c G H locs ls C hR hS hf hl
  have hlt : i.toNatClampNeg < N := Nat.not_le.mp fun q => hi (Or.inr q)
  exact W.iald (v := .int (f i.toNatClampNeg)) C.1 C.2.1 (show H[a]? = some (vp_cell (G.2.2 0) (N, .inl f)) from (hR a _ he).2) ((C.2.2.2.2.2.2.2.1.2.1 0 .int rfl).1 N (fun j => .int (f j))) (fun q => by cases q) (by show ¬ (i < 0 ∨ (arrV _ _ _).slots.size ≤ _); rw [arrV_size]; exact hi) (by show (arrV _ _ _).slots[_]? = _; rw [arrV_read _ _ hlt]) rfl rfl hd (r l p e R s m args below meth c G H locs ls C hR hS hf hl)
theorem rk_iast {a N : Nat} {f : Nat → Int32} {i x : Int32} (hd : decode M.2.1 pc = .ok (.iastore, 1)) (he : h a = some (.inl (0, N, .inl f))) (hi : vp_in i N) (r : rk_Run M B P (pc + 1) lv st (rk_up h a (.inl (0, N, .inl (upd f i.toNatClampNeg x)))) u) : rk_Run M B P pc lv (.int x :: .int i :: .ref a :: st) h u := by
  intro l p e R s m args below meth c G H locs ls C hR hS hf hl
  refine W.iast C.1 C.2.1 (show H[a]? = some (vp_cell (G.2.2 0) (N, .inl f)) from (hR a _ he).2) ((C.2.2.2.2.2.2.2.1.2.1 0 .int rfl).1 N (fun j => .int (f j))) (fun q => by cases q) (by show ¬ (i < 0 ∨ (arrV _ _ _).slots.size ≤ _); rw [arrV_size]; exact hi) rfl rfl hd fun H1 e1 z oq => ?_
  refine r l p e R s m args below meth c G H1 _ ls C (hR.set (hR.wr he rfl) ?_ oq) (hS.put z oq (hR.wr he rfl)) (rk_lc hf (hR.wr he rfl)) hl
  show H1[a]? = some (vp_cell _ _)
  rw [e1]
  rw [vp_cell_i, vp_cell_i, arrV_store]
  congr 2
  funext q
  by_cases hq : q = i.toNatClampNeg
  · subst hq
    simp [updV, upd]
  · simp [updV, upd, hq]
theorem rk_lald {a N : Nat} {f : Nat → Int64} {i : Int32} (hd : decode M.2.1 pc = .ok (.laload, 1)) (he : h a = some (.inl (1, N, .inr (.inl f)))) (hi : vp_in i N) (r : rk_Run M B P (pc + 1) lv (.long (f i.toNatClampNeg) :: st) h u) : rk_Run M B P pc lv (.int i :: .ref a :: st) h u := by
  intro l p e R s m args below meth c G H locs ls C hR hS hf hl
  have hlt : i.toNatClampNeg < N := Nat.not_le.mp fun q => hi (Or.inr q)
  exact W.lald (v := .long (f i.toNatClampNeg)) C.1 C.2.1 (show H[a]? = some (vp_cell (G.2.2 1) (N, .inr (.inl f))) from (hR a _ he).2) ((C.2.2.2.2.2.2.2.1.2.1 1 .long rfl).1 N (fun j => .long (f j))) (fun q => by cases q) (by show ¬ (i < 0 ∨ (arrV _ _ _).slots.size ≤ _); rw [arrV_size]; exact hi) (by show (arrV _ _ _).slots[_]? = _; rw [arrV_read _ _ hlt]) rfl rfl hd (r l p e R s m args below meth c G H locs ls C hR hS hf hl)
theorem rk_last {a N : Nat} {f : Nat → Int64} {i : Int32} {x : Int64} (hd : decode M.2.1 pc = .ok (.lastore, 1)) (he : h a = some (.inl (1, N, .inr (.inl f)))) (hi : vp_in i N) (r : rk_Run M B P (pc + 1) lv st (rk_up h a (.inl (1, N, .inr (.inl (va_up f i.toNatClampNeg x))))) u) : rk_Run M B P pc lv (.long x :: .int i :: .ref a :: st) h u := by
  intro l p e R s m args below meth c G H locs ls C hR hS hf hl
  refine W.last C.1 C.2.1 (show H[a]? = some (vp_cell (G.2.2 1) (N, .inr (.inl f))) from (hR a _ he).2) ((C.2.2.2.2.2.2.2.1.2.1 1 .long rfl).1 N (fun j => .long (f j))) (fun q => by cases q) (by show ¬ (i < 0 ∨ (arrV _ _ _).slots.size ≤ _); rw [arrV_size]; exact hi) rfl rfl hd fun H1 e1 z oq => ?_
  refine r l p e R s m args below meth c G H1 _ ls C (hR.set (hR.wr he rfl) ?_ oq) (hS.put z oq (hR.wr he rfl)) (rk_lc hf (hR.wr he rfl)) hl
  show H1[a]? = some (vp_cell _ _)
  rw [e1]
  rw [vp_cell_l, vp_cell_l, arrV_store]
  congr 2
  funext q
  by_cases hq : q = i.toNatClampNeg
  · subst hq
    simp [updV, va_up]
  · simp [updV, va_up, hq]
theorem rk_newl {N : Nat} {x : Int32} {at0 : ArrayType} (hat : newarray.typeOf at0 = .long) (hw : Cond.arrayClass .long ∈ rk_tbl) (hx : x = nI N) (hN : N < 100000) (hd : decode M.2.1 pc = .ok (.newarray at0, 2)) (hk : u.1 + 1 ≤ B.2.2.1) (hn : u.2 + N ≤ B.2.2.2)
    (r : ∀ q : Nat, h q = none → rk_Run M B P (pc + 2) lv (.ref q :: st) (rk_up h q (.inl (1, N, .inr (.inl (fun _ => 0))))) (u.1 + 1, u.2 + N)) : rk_Run M B P pc lv (.int x :: st) h u := by
  intro l p e R s m args below meth c G H locs ls C hR hS hf hl
  subst hx
  have hts := C.2.2.2.2.2.2.1
  have hcells := C.2.2.2.2.2.2.2.2.2.2.2.1
  have hslots := C.2.2.2.2.2.2.2.2.2.2.2.2.1
  refine va_newaK C.1 C.2.1 (atype := at0) (by rw [hat]; exact hts _ hw) rfl hd rfl (nI_pos (by omega)) (nI_clamp (by omega)) (by rw [hat]; show N * 8 ≤ _; omega) (Nat.le_trans hk hcells) (Nat.le_trans hn hslots) rfl fun H1 cA e1 z1 o1 _ hNm => ?_
  rw [hat] at e1 hNm
  have hcA : cA = G.2.2 1 := Option.some.inj (hNm.symm.trans (show s.vm.findClass ("[" ++ FieldType.long.toString) = some (G.2.2 1) from (C.2.2.2.2.2.2.2.1.2.1 1 .long rfl).2))
  subst hcA
  exact r H.size hR.fresh l p e R s m args below meth c G H1 locs ls C (hR.push hS.1.1 (show H1[H.size]? = some (vp_cell (G.2.2 1) (N, .inr (.inl (fun _ => 0)))) from e1) o1) (hS.push z1 o1) hf hl
theorem rk_dald {a N : Nat} {f : Nat → UInt64} {i : Int32} (hd : decode M.2.1 pc = .ok (.daload, 1)) (he : h a = some (.inl (2, N, .inr (.inr (.inr (.inl f)))))) (hi : vp_in i N) (r : rk_Run M B P (pc + 1) lv (.double (f i.toNatClampNeg) :: st) h u) : rk_Run M B P pc lv (.int i :: .ref a :: st) h u := by
  intro l p e R s m args below meth c G H locs ls C hR hS hf hl
  have hlt : i.toNatClampNeg < N := Nat.not_le.mp fun q => hi (Or.inr q)
  exact W.dald (v := .double (f i.toNatClampNeg)) C.1 C.2.1 (show H[a]? = some (vp_cell (G.2.2 2) (N, .inr (.inr (.inr (.inl f))))) from (hR a _ he).2) ((C.2.2.2.2.2.2.2.1.2.1 2 .double rfl).1 N (fun j => .double (f j))) (fun q => by cases q) (by show ¬ (i < 0 ∨ (arrV _ _ _).slots.size ≤ _); rw [arrV_size]; exact hi) (by show (arrV _ _ _).slots[_]? = _; rw [arrV_read _ _ hlt]) rfl rfl hd (r l p e R s m args below meth c G H locs ls C hR hS hf hl)
theorem rk_dast {a N : Nat} {f : Nat → UInt64} {i : Int32} {x : UInt64} (hd : decode M.2.1 pc = .ok (.dastore, 1)) (he : h a = some (.inl (2, N, .inr (.inr (.inr (.inl f)))))) (hi : vp_in i N) (r : rk_Run M B P (pc + 1) lv st (rk_up h a (.inl (2, N, .inr (.inr (.inr (.inl (va_up f i.toNatClampNeg x))))))) u) : rk_Run M B P pc lv (.double x :: .int i :: .ref a :: st) h u := by
  intro l p e R s m args below meth c G H locs ls C hR hS hf hl
  refine W.dast C.1 C.2.1 (show H[a]? = some (vp_cell (G.2.2 2) (N, .inr (.inr (.inr (.inl f))))) from (hR a _ he).2) ((C.2.2.2.2.2.2.2.1.2.1 2 .double rfl).1 N (fun j => .double (f j))) (fun q => by cases q) (by show ¬ (i < 0 ∨ (arrV _ _ _).slots.size ≤ _); rw [arrV_size]; exact hi) rfl rfl hd fun H1 e1 z oq => ?_
  refine r l p e R s m args below meth c G H1 _ ls C (hR.set (hR.wr he rfl) ?_ oq) (hS.put z oq (hR.wr he rfl)) (rk_lc hf (hR.wr he rfl)) hl
  show H1[a]? = some (vp_cell _ _)
  rw [e1]
  rw [vp_cell_d, vp_cell_d, arrV_store]
  congr 2
  funext q
  by_cases hq : q = i.toNatClampNeg
  · subst hq
    simp [updV, va_up]
  · simp [updV, va_up, hq]
theorem rk_newd {N : Nat} {x : Int32} {at0 : ArrayType} (hat : newarray.typeOf at0 = .double) (hw : Cond.arrayClass .double ∈ rk_tbl) (hx : x = nI N) (hN : N < 100000) (hd : decode M.2.1 pc = .ok (.newarray at0, 2)) (hk : u.1 + 1 ≤ B.2.2.1) (hn : u.2 + N ≤ B.2.2.2)
    (r : ∀ q : Nat, h q = none → rk_Run M B P (pc + 2) lv (.ref q :: st) (rk_up h q (.inl (2, N, .inr (.inr (.inr (.inl (fun _ => 0))))))) (u.1 + 1, u.2 + N)) : rk_Run M B P pc lv (.int x :: st) h u := by
  intro l p e R s m args below meth c G H locs ls C hR hS hf hl
  subst hx
  have hts := C.2.2.2.2.2.2.1
  have hcells := C.2.2.2.2.2.2.2.2.2.2.2.1
  have hslots := C.2.2.2.2.2.2.2.2.2.2.2.2.1
  refine va_newaK C.1 C.2.1 (atype := at0) (by rw [hat]; exact hts _ hw) rfl hd rfl (nI_pos (by omega)) (nI_clamp (by omega)) (by rw [hat]; show N * 8 ≤ _; omega) (Nat.le_trans hk hcells) (Nat.le_trans hn hslots) rfl fun H1 cA e1 z1 o1 _ hNm => ?_
  rw [hat] at e1 hNm
  have hcA : cA = G.2.2 2 := Option.some.inj (hNm.symm.trans (show s.vm.findClass ("[" ++ FieldType.double.toString) = some (G.2.2 2) from (C.2.2.2.2.2.2.2.1.2.1 2 .double rfl).2))
  subst hcA
  exact r H.size hR.fresh l p e R s m args below meth c G H1 locs ls C (hR.push hS.1.1 (show H1[H.size]? = some (vp_cell (G.2.2 2) (N, .inr (.inr (.inr (.inl (fun _ => 0)))))) from e1) o1) (hS.push z1 o1) hf hl
theorem rk_sarr {G : rk_G} {s : State} {cell : Cell} (hK : rk_K G s) (h1 : cell.cls = G.2.2 4) (h2 : ∀ k, cell.vm ≠ .statics k) : s.isArrayOf cell .int := by
  obtain ⟨-, k, hk, comp, hkind⟩ := hK.2.2.2.2.2.2.2 0 (fun _ => .null)
  exact ⟨h2, k, by rw [h1]; exact hk, comp, hkind⟩
theorem rk_sald {a N : Nat} {f : Nat → Int32} {i : Int32} (hd : decode M.2.1 pc = .ok (.iaload, 1)) (he : h a = some (sA N f)) (hi : vp_in i N) (r : rk_Run M B P (pc + 1) lv (.int (f i.toNatClampNeg) :: st) h u) : rk_Run M B P pc lv (.int i :: .ref a :: st) h u := by
  intro l p e R s m args below meth c G H locs ls C hR hS hf hl
  have hlt : i.toNatClampNeg < N := Nat.not_le.mp fun q => hi (Or.inr q)
  obtain ⟨cell, g1, g2, g3, g4, g5, g6⟩ := (hR a _ he).2
  exact W.iald (v := .int (f i.toNatClampNeg)) C.1 C.2.1 g1 (rk_sarr C.2.2.2.2.2.2.2.1 g2 g3) g4 (by rw [show cell.slots.size = N from g5]; exact hi) (g6 _ hlt) rfl rfl hd (r l p e R s m args below meth c G H locs ls C hR hS hf hl)
theorem rk_slen {a N : Nat} {f : Nat → Int32} (hd : decode M.2.1 pc = .ok (.arraylength, 1)) (he : h a = some (sA N f)) (r : rk_Run M B P (pc + 1) lv (.int (nI N) :: st) h u) : rk_Run M B P pc lv (.ref a :: st) h u := by
  intro l p e R s m args below meth c G H locs ls C hR hS hf hl
  obtain ⟨cell, g1, g2, g3, g4, g5, g6⟩ := (hR a _ he).2
  exact W.alen (n := nI N) C.1 C.2.1 g1 (rk_sarr C.2.2.2.2.2.2.2.1 g2 g3) (by rw [show cell.slots.size = N from g5]; rfl) rfl rfl hd (r l p e R s m args below meth c G H locs ls C hR hS hf hl)
theorem rk_alen {a N kd : Nat} {x : (Nat → Int32) ⊕ (Nat → Int64) ⊕ (Nat → UInt32) ⊕ (Nat → UInt64) ⊕ (Nat → Option Nat)} (hkd : kd < rk_ty.length) (hd : decode M.2.1 pc = .ok (.arraylength, 1)) (he : h a = some (.inl (kd, N, x))) (r : rk_Run M B P (pc + 1) lv (.int (nI N) :: st) h u) : rk_Run M B P pc lv (.ref a :: st) h u := by
  intro l p e R s m args below meth c G H locs ls C hR hS hf hl
  have hk := C.2.2.2.2.2.2.2.1.2.1 kd rk_ty[kd] (List.getElem?_eq_getElem hkd)
  exact va_alen (D := G.2.1) (cl := vwCl) (ws := [(a, .inl (G.2.2 kd, N, x))]) (tys := [(G.2.2 kd, rk_ty[kd])]) C.1 C.2.1 ⟨C.2.2.2.2.2.2.2.1.1, fun j q hj => by
    cases j with
    | zero => cases hj; exact hk
    | succ j => simp at hj⟩ (fun j q hj => by
    cases j with
    | zero => cases hj; exact (hR a _ he).2
    | succ j => simp at hj) 0 0 rfl rfl rfl hd (r l p e R s m args below meth c G H locs ls C hR hS hf hl)
/-- references: the kinds of rk_ty from 1 on -/
theorem rk_aald {a N kd : Nat} {C0 : String} {f : Nat → Option Nat} {i : Int32} {v : Value} (hty : rk_ty[kd]? = some (.object C0)) (hd : decode M.2.1 pc = .ok (.aaload, 1)) (he : h a = some (.inl (kd, N, .inr (.inr (.inr (.inr f)))))) (hi : vp_in i N) (hv : va_rf (f i.toNatClampNeg) = v) (r : rk_Run M B P (pc + 1) lv (v :: st) h u) : rk_Run M B P pc lv (.int i :: .ref a :: st) h u := by
  intro l p e R s m args below meth c G H locs ls C hR hS hf hl
  subst hv
  have hlt : i.toNatClampNeg < N := Nat.not_le.mp fun q => hi (Or.inr q)
  exact W.aald (v := va_rf (f i.toNatClampNeg)) (ty := .object C0) C.1 C.2.1 (show H[a]? = some (vp_cell (G.2.2 kd) (N, .inr (.inr (.inr (.inr f))))) from (hR a _ he).2) ((C.2.2.2.2.2.2.2.1.2.1 kd _ hty).1 N (fun j => va_rf (f j))) rfl (fun q => by cases q) (by show ¬ (i < 0 ∨ (arrV _ _ _).slots.size ≤ _); rw [arrV_size]; exact hi) (by show (arrV _ _ _).slots[_]? = _; rw [arrV_read _ _ hlt]) rfl rfl hd (r l p e R s m args below meth c G H locs ls C hR hS hf hl)
theorem rk_aast {a N kd v ci : Nat} {rc : vw_C} {vs : List Value} {f : Nat → Option Nat} {i : Int32} (hty : rk_ty[kd]? = some (.object rc.1)) (hc : vwCl[ci]? = some rc) (hd : decode M.2.1 pc = .ok (.aastore, 1)) (he : h a = some (.inl (kd, N, .inr (.inr (.inr (.inr f)))))) (hv : h v = some (oB ci vs)) (hi : vp_in i N) (r : rk_Run M B P (pc + 1) lv st (rk_up h a (.inl (kd, N, .inr (.inr (.inr (.inr (va_up f i.toNatClampNeg (some v)))))))) u) : rk_Run M B P pc lv (.ref v :: .int i :: .ref a :: st) h u := by
  intro l p e R s m args below meth c G H locs ls C hR hS hf hl
  have hlt : i.toNatClampNeg < N := Nat.not_le.mp fun q => hi (Or.inr q)
  have h0 : ¬ i < 0 := fun q => hi (Or.inl q)
  obtain ⟨r', hr', cellV, g1, g2, g3, -⟩ := (hR v _ hv).2
  have hcls := (C.2.2.2.2.2.2.2.1.1 ci rc hc).2
  obtain ⟨kA, comp, k1, k2, k3, -⟩ := (C.2.2.2.2.2.2.2.1.2.1 kd _ hty).2
  have hcomp : comp = G.2.1.1 ci := Option.some.inj (k3.symm.trans hcls.1)
  subst hcomp
  obtain ⟨kC, hkC, -⟩ := hcls.2
  refine W.aast C.1 C.2.1 (show H[a]? = some (vp_cell (G.2.2 kd) (N, .inr (.inr (.inr (.inr f))))) from (hR a _ he).2) (fun q h => by cases h) (fun h => by cases h) k1 k2 rfl hkC ⟨h0, by show _ < (arrV _ _ _).slots.size; rw [arrV_size]; exact hlt⟩ g1 (fun q h => by rw [g3] at h; cases h) (by rw [g2]; exact hkC) (by rw [g2]; exact va_assign hcls) rfl rfl hd fun H1 e1 z oq => ?_
  refine r l p e R s m args below meth c G H1 _ ls C (hR.set (hR.wr he rfl) ?_ oq) (hS.put z oq (hR.wr he rfl)) (rk_lc hf (hR.wr he rfl)) hl
  show H1[a]? = some (vp_cell _ _)
  rw [e1]
  rw [vp_cell_q, vp_cell_q, arrV_store]
  congr 2
  funext q
  by_cases hq : q = i.toNatClampNeg
  · subst hq
    simp [updV, va_up, va_rf]
  · simp [updV, va_up, hq]
theorem rk_newq {idx N : Nat} {x : Int32} (hw : Cond.classLink M.1.cls idx "TensorForge$Node" ∈ rk_tbl) (hx : x = nI N) (hN : N < 100000) (hd : decode M.2.1 pc = .ok (.anewarray idx, 3)) (hk : u.1 + 1 ≤ B.2.2.1) (hn : u.2 + N ≤ B.2.2.2)
    (r : ∀ q : Nat, h q = none → rk_Run M B P (pc + 3) lv (.ref q :: st) (rk_up h q (qA N (fun _ => none))) (u.1 + 1, u.2 + N)) : rk_Run M B P pc lv (.int x :: st) h u := by
  intro l p e R s m args below meth c G H locs ls C hR hS hf hl
  subst hx
  have hts := C.2.2.2.2.2.2.1
  have hcells := C.2.2.2.2.2.2.2.2.2.2.2.1
  have hslots := C.2.2.2.2.2.2.2.2.2.2.2.2.1
  have hcl : (nI N).toNatClampNeg = N := nI_clamp (by omega)
  refine W.anew C.1 C.2.1 C.2.2.2.2.2.1 (hts _ hw) (va_AO.use C.2.2.2.2.2.2.2.1.2.2.2.2.2.2.1) rfl hd rfl (nI_pos (by omega)) (by rw [hcl]; omega) (Nat.le_trans hk hcells) (by rw [hcl]; exact Nat.le_trans hn hslots) fun cA kA comp f1 f2 f3 f4 => ?_
  rw [hcl]
  obtain ⟨kA', comp', k1, k2, k3, k4⟩ := (C.2.2.2.2.2.2.2.1.2.1 3 _ rfl).2
  have hcA : cA = G.2.2 3 := Option.some.inj (f1.symm.trans k4)
  subst hcA
  generalize hH1 : H.push ({ cls := G.2.2 3, slots := Array.replicate N .null, vm := .none } : Cell) = H1
  have z1 : H1.size = H.size + 1 := by rw [← hH1, Array.size_push]
  have e1 : H1[H.size]? = some (arrV (G.2.2 3) N (fun _ => .null)) := by rw [← hH1, Array.getElem?_push_size, ← arrV_new]
  have o1 : ∀ q : Nat, q < H.size → H1[q]? = H[q]? := fun q hq => by rw [← hH1, Array.getElem?_push, if_neg (Nat.ne_of_lt hq)]
  exact r H.size hR.fresh l p e R s m args below meth c G H1 locs ls C (hR.push hS.1.1 (show H1[H.size]? = some (vp_cell (G.2.2 3) (N, .inr (.inr (.inr (.inr (fun _ => none)))))) from e1) o1) (hS.push z1 o1) hf hl
/-- Object's constructor -/
theorem rk_objI {idx a : Nat} (hw : Cond.methodLink M.1.cls idx objectInit ∈ rk_tbl) (hw2 : Cond.instanceMethod objectInit ∈ rk_tbl) (hw3 : Cond.code objectInit ⟨#[0xb1]⟩ 1 none ∈ rk_tbl) (hd : decode M.2.1 pc = .ok (.invokespecial idx, 3)) (hf1 : 1 ≤ B.1) (hst : (st.map fun v => v.category).sum + 15 ≤ B.2.1) (r : rk_Run M B P (pc + 3) lv st h u) : rk_Run M B P pc lv (.ref a :: st) h u := by
  intro l p e R s m args below meth c G H locs ls C hR hS hf hl
  have hts := C.2.2.2.2.2.2.1
  have h1 := C.2.2.2.2.2.2.2.2.2.1
  have h2 := C.2.2.2.2.2.2.2.2.2.2.1
  exact W.objInit C.1 C.2.1 C.2.2.2.2.2.1 (hts _ hw) (hts _ hw2) (hts _ hw3) rfl (by rw [C.2.2.1]; exact hl.1) rfl hd (by omega) (by show 2 * 0 + _ + 12 ≤ _; omega) (r l p e R s m args below meth c G H locs ls C hR hS hf hl)
/-- Math -/
theorem rk_mmax {idx : Nat} {x y : Int32} (hw : Cond.methodLink M.1.cls idx Lib.Math.max.name ∈ rk_tbl) (hw2 : Cond.static Lib.Math.max.name ∈ rk_tbl) (hw3 : Cond.initialized "java/lang/Math" ∈ rk_tbl) (hw4 : Cond.code Lib.Math.max.name Lib.Math.max.code 2 (some .int) ∈ rk_tbl) (hd : decode M.2.1 pc = .ok (.invokestatic idx, 3)) (hu : rk_ok u B) (hf1 : 1 ≤ B.1) (hst : (st.map fun v => v.category).sum + 15 ≤ B.2.1) (r : rk_Run M B P (pc + 3) lv (.int (if x < y then y else x) :: st) h u) : rk_Run M B P pc lv (.int y :: .int x :: st) h u := by
  intro l p e R s m args below meth c G H locs ls C hR hS hf hl
  have hts := C.2.2.2.2.2.2.1
  have h1 := C.2.2.2.2.2.2.2.2.2.1
  have h2 := C.2.2.2.2.2.2.2.2.2.2.1
  exact va_mmax C.1 C.2.1 (by rw [C.2.2.1]; exact hl.1.symm) C.2.2.2.2.2.1 (hts _ hw) (hts _ hw2) (hts _ hw3) (hts _ hw4) (by omega) (by omega) (Nat.le_trans hu.1 C.2.2.2.2.2.2.2.2.2.2.2.1) (Nat.le_trans hu.2 C.2.2.2.2.2.2.2.2.2.2.2.2.1) hd (r l p e R s m args below meth c G H locs ls C hR hS hf hl)
theorem rk_mmin {idx : Nat} {x y : Int32} (hw : Cond.methodLink M.1.cls idx Lib.Math.min.name ∈ rk_tbl) (hw2 : Cond.static Lib.Math.min.name ∈ rk_tbl) (hw3 : Cond.initialized "java/lang/Math" ∈ rk_tbl) (hw4 : Cond.code Lib.Math.min.name Lib.Math.min.code 2 (some .int) ∈ rk_tbl) (hd : decode M.2.1 pc = .ok (.invokestatic idx, 3)) (hu : rk_ok u B) (hf1 : 1 ≤ B.1) (hst : (st.map fun v => v.category).sum + 15 ≤ B.2.1) (r : rk_Run M B P (pc + 3) lv (.int (if y < x then y else x) :: st) h u) : rk_Run M B P pc lv (.int y :: .int x :: st) h u := by
  intro l p e R s m args below meth c G H locs ls C hR hS hf hl
  have hts := C.2.2.2.2.2.2.1
  have h1 := C.2.2.2.2.2.2.2.2.2.1
  have h2 := C.2.2.2.2.2.2.2.2.2.2.1
  exact va_mmin C.1 C.2.1 (by rw [C.2.2.1]; exact hl.1.symm) C.2.2.2.2.2.1 (hts _ hw) (hts _ hw2) (hts _ hw3) (hts _ hw4) (by omega) (by omega) (Nat.le_trans hu.1 C.2.2.2.2.2.2.2.2.2.2.2.1) (Nat.le_trans hu.2 C.2.2.2.2.2.2.2.2.2.2.2.2.1) hd (r l p e R s m args below meth c G H locs ls C hR hS hf hl)
end RKR
/-! CALLS -/
def rk_find : List (Nat × Nat × Nat × Nat × String) → Nat → String → Option Nat
  | [], _, _ => none
  | q :: t, pc, C => if q.1 ≤ pc ∧ pc < q.2.1 then (if q.2.2.2.2 = C then some q.2.2.1 else rk_find t pc C) else rk_find t pc C
/-- what goes on behind a call -/
def rk_nx (M : rk_M) (B : rk_B) (P : rk_P) (pc : Nat) (lv : List (Option Value)) (rest : List Value) (h : rk_H) (u : rk_U) (r : rk_O) : Prop := match r with
  | .inl v => rk_Run M B P (pc + 3) lv (v.toList ++ rest) h u
  | .inr C => match M.2.2.2.2 with
    | [] => P (.inr C) h ∧ rk_ok u B
    | hh => (∃ hp : Nat, rk_find hh pc C = some hp ∧ ∀ a : Nat, rk_Run M B P hp lv [.ref a] h u) ∧ C ∈ rk_exc ∧ ∀ q ∈ hh, q.2.2.2.1 ≠ 0 ∧ q.2.2.2.2 ∈ rk_exc ∧ Cond.classLink M.1.cls q.2.2.2.1 q.2.2.2.2 ∈ rk_tbl
theorem rk_wd_spec {N : rk_M} {args : Array Value} {s : State} (h : (rk_wd N).before args s = true) : ∃ (mk : MethodId) (meth : Method) (cd : Code), s.methodNamed? N.1 = some mk ∧ s.vm.method? mk = some meth ∧ meth.code = some cd ∧ cd.maxLocals = N.2.2.1 ∧ parseMethodDescriptor N.1.desc = some meth.sig := by
  obtain ⟨y, bs, nL, rt, hh⟩ := N
  cases hh with
  | nil =>
    have h' : (Cond.code y bs nL rt).before args s = true := h
    obtain ⟨mk, hn⟩ := Cond.code_named h'
    obtain ⟨meth, c, h1, h2, h3, h4, h5, h6, h7, h8⟩ := Cond.code_spec hn h'
    exact ⟨mk, meth, c, hn, h1, h2, h4, h8⟩
  | cons q t =>
    obtain ⟨m', meth, c, h0, h1, h2, h3, h4, h5, h6, h7, h8⟩ := Cond.codeWith_spec (show (Cond.codeWith y bs nL rt (rk_hh (y, bs, nL, rt, q :: t))).before args s = true from h)
    exact ⟨m', meth, c, h0, h1, h2, h4, h8⟩
/-- the call itself, from the state with its entry noted -/
theorem rk_go {p : Program} {l : Launch} {e : Env} {R : Room} {s : State} {m : MethodId} {args : Array Value} {below : List Frame} {meth : Method} {c : Code} {T : State} {locs : List Loc} {cells slots : Nat} {M N : rk_M} {B B' : rk_B} {G : rk_G} {As : List Value} {h : rk_H} {P' : rk_P}
    (X : Stand p l e R s m args below meth c T locs cells slots) (C : rk_Cx M B l p e R s m args meth c G) (con : rk_Con N B' As h P') (hw : rk_wd N ∈ rk_tbl) (hini : Cond.initialized N.1.cls ∈ rk_tbl)
    (hR : rk_R G h T.heap) (hS : rk_S G s.heap T.heap) {g : JFrame} (hg : g.method = m) (hsize : g.locals.size = c.maxLocals) {ig : Instr} (hdg : decode c.code g.pc = .ok (ig, 3)) (hmon : g.monitorRoom = 0) (hst : (g.stack.map fun v => v.category).sum + (N.2.2.1 + 11) + B'.2.1 ≤ B.2.1) (hdd : B'.1 + 1 ≤ B.1) (hk : cells + B'.2.2.1 ≤ B.2.2.1) (hn : slots + B'.2.2.2 ≤ B.2.2.2)
    {mk : MethodId} (hnm : s.methodNamed? N.1 = some mk) :
    ∃ (r : rk_O) (h' : rk_H) (o : Outcome) (t T' : State) (L : List Loc), Steps p.tables e below (doInvoke e (T.setTop g) [] mk As.toArray).1 t ∧ P' r h' ∧ rk_out r o t ∧ rk_R G h' T'.heap ∧ rk_S G s.heap T'.heap ∧ (∀ q ∈ L, G.1 ≤ q.base) ∧ T'.heap = t.heap ∧ T'.vm = t.vm ∧
      Stand p l e R s m args below meth c T' (locs ++ L) (cells + B'.2.2.1) (slots + B'.2.2.2) ∧
      (∀ v, o = .returned v → t = T'.setTop { g with pc := g.pc + 3, stack := v.toList ++ g.stack }) ∧ (∀ x, o = .threw x → t = (T'.setTop g).pushFrame (.throwing x)) := by
  have hts := C.2.2.2.2.2.2.1
  have hfr := C.2.2.2.2.2.2.2.2.2.1
  have hlo := C.2.2.2.2.2.2.2.2.2.2.1
  have hcl := C.2.2.2.2.2.2.2.2.2.2.2.1
  have hsl := C.2.2.2.2.2.2.2.2.2.2.2.2.1
  have hok := C.2.2.2.2.2.2.2.2.2.2.2.2.2.2
  have hwT : ∀ w ∈ rk_wd N :: rk_tbl, w.before As.toArray T = true := by
    intro w hw'
    have hin : w ∈ rk_tbl := by
      rcases List.mem_cons.mp hw' with rfl | q
      · exact hw
      · exact q
    exact word_at X.warmed (rk_good w hin) (hts w hin)
  obtain ⟨mkT, methT, cT, e1, e2, e3, e4, e5⟩ := rk_wd_spec (hwT _ List.mem_cons_self)
  have hnT : T.methodNamed? N.1 = some mk := X.named hnm
  cases hnT.symm.trans e1
  obtain ⟨kY, hkY, -⟩ := className_of_methodNamed hnT
  have hinitY : kY.init = .initialized := Cond.initialized_spec (findClass_of_methodNamed hnT) hkY (hwT _ (List.mem_cons_of_mem _ hini))
  have hAt : At T g.method c below := by rw [hg]; exact X.here
  have happ : (headSpec (rk_wd N :: rk_tbl) { frames := B'.1, cells := B'.2.2.1, slots := B'.2.2.2, locals := B'.2.1 }).appliesLoose N.1 e.platform (T.calling g mk As.toArray) = true :=
    Spec.appliesLoose_calling (g := g) hAt hdg hnT hkY hinitY
      (X.room_calling (g := g) (R' := { frames := B'.1, cells := B'.2.2.1, slots := B'.2.2.2, locals := B'.2.1 }) hsize e2 e3 (by dsimp only; omega) (by rw [e4, hmon]; dsimp only; omega) (by dsimp only; omega) (by dsimp only; omega)) (atoms_intro hwT)
  obtain ⟨mid, hmid⟩ := hAt.above
  have hfrm : (T.setTop g).frames = (.java g :: mid) ++ below := by rw [State.frames_setTop' g hAt.top, hmid]; rfl
  have hKT : rk_K G (T.calling g mk As.toArray) := C.2.2.2.2.2.2.2.1.next (U := T.calling g mk As.toArray) X.warmed hS
  obtain ⟨o, t, hsteps, -, hend, hq⟩ := Steps.callFree (con l G hok) p X.admits X.cas X.clock (acts := []) hfrm happ ⟨rfl, hS.1.1, hR, hKT⟩ trivial
  rw [State.frames_setTop' g hAt.top, X.tail] at hend
  obtain ⟨⟨⟨r, h', q1, q2, q3⟩, q4⟩, L, ⟨q5, q6⟩, q7⟩ := hq
  have hS' : rk_S G T.heap t.heap := q4
  cases o with
  | returned v =>
    obtain ⟨T', X', hWT, hsame, ht⟩ := X.outOf (g := g) (mk := mk) (a := As.toArray) hg hdg hend q5 q6
    have hh : T'.heap = t.heap := by rw [ht]; rfl
    have hv : T'.vm = t.vm := by rw [ht]; rfl
    exact ⟨r, h', _, t, T', L, hsteps, q2, q1, by rw [hh]; exact q3, by rw [hh]; exact hS.trans hS', q7, hh, hv, X', (fun w hw => by cases hw; exact ht), (fun x hx => by cases hx)⟩
  | threw x =>
    obtain ⟨T', X', hWT, hsame, ht⟩ := X.outOfThrown (g := g) (mk := mk) (a := As.toArray) hg hend q5 q6
    have hh : T'.heap = t.heap := by rw [ht]; rfl
    have hv : T'.vm = t.vm := by rw [ht]; rfl
    exact ⟨r, h', _, t, T', L, hsteps, q2, q1, by rw [hh]; exact q3, by rw [hh]; exact hS.trans hS', q7, hh, hv, X', (fun w hw => by cases hw), (fun y hy => by cases hy; exact ht)⟩
/-- caught: through vx_catch, the entries ahead of the one that takes it passed -/
theorem rk_caught {p : Program} {l : Launch} {e : Env} {R : Room} {s : State} {m : MethodId} {args : Array Value} {below : List Frame} {meth : Method} {c : Code} {H : Heap} {locs : List Loc} {cells slots : Nat} {Q : State → Prop} {ls : Array Slot} {rest : List Value} {pc : Nat} {G : rk_G} {own E : String} {ce : Cell} {q : Addr} {hp : Nat}
    (hh : List (Nat × Nat × Nat × Nat × String)) : ∀ (pre : List (Nat × Nat × Nat × Nat × String)), s.vm.findClass own = some m.cls → (∀ w ∈ rk_tbl, w.before args s = true) → rk_K G s → E ∈ rk_exc → c.exceptionTable.toList = tableOf ((pre ++ hh).map (fun q => (q.1, q.2.1, q.2.2.1, q.2.2.2.1))) →
    (∀ z ∈ pre, (¬ (z.1 ≤ pc ∧ pc < z.2.1) ∨ z.2.2.2.2 ≠ E) ∧ z.2.2.2.1 ≠ 0 ∧ z.2.2.2.2 ∈ rk_exc ∧ Cond.classLink own z.2.2.2.1 z.2.2.2.2 ∈ rk_tbl) →
    (∀ z ∈ hh, z.2.2.2.1 ≠ 0 ∧ z.2.2.2.2 ∈ rk_exc ∧ Cond.classLink own z.2.2.2.1 z.2.2.2.2 ∈ rk_tbl) → rk_find hh pc E = some hp → H[q]? = some ce → ce.vm = .none → s.vm.findClass E = some ce.cls →
    W p l e R s m args below meth c H locs cells slots Q (F0 m hp ls [.ref q]) → vx_W p l e R s m args below meth c H locs cells slots Q (F0 m pc ls rest) q := by
  induction hh with
  | nil => intro pre _ _ _ _ _ _ _ hf; cases hf
  | cons z t ih =>
    intro pre hown hts hK hexc htab hpre hhh hf hce hv hcl kk
    obtain ⟨g1, g2, g3⟩ := hhh z List.mem_cons_self
    unfold rk_find at hf
    by_cases hcov : z.1 ≤ pc ∧ pc < z.2.1
    · rw [if_pos hcov] at hf
      by_cases hn : z.2.2.2.2 = E
      · rw [if_pos hn] at hf
        cases hf
        refine vx_catch (own := own) (name := E) (E := E) (ce := ce) hown (tableOf (pre.map (fun q => (q.1, q.2.1, q.2.2.1, q.2.2.2.1)))) ⟨z.1, z.2.1, z.2.2.1, z.2.2.2.1⟩ (tableOf (t.map (fun q => (q.1, q.2.1, q.2.2.1, q.2.2.2.1)))) (by rw [htab]; simp [tableOf]) ?_ (by simp [covers, hcov]) g1 (by rw [← hn]; exact hts _ g3) (rk_cast E hexc hK) hce hv hcl kk
        intro y hy
        simp only [tableOf, List.map_map, List.mem_map] at hy
        obtain ⟨x, hx, rfl⟩ := hy
        obtain ⟨p1, p2, p3, p4⟩ := hpre x hx
        rcases p1 with p1 | p1
        · left
          simp only [Function.comp, covers, Bool.and_eq_false_iff, decide_eq_false_iff_not]
          by_cases h1 : x.1 ≤ pc
          · right; exact fun h2 => p1 ⟨h1, h2⟩
          · left; exact h1
        · right
          exact ⟨p2, x.2.2.2.2, hts _ p4, rk_ncst E hexc _ p3 (fun q => p1 q.symm) hK⟩
      · rw [if_neg hn] at hf
        exact ih (pre ++ [z]) hown hts hK hexc (by rw [htab]; simp) (fun y hy => by
          rcases List.mem_append.mp hy with h | h
          · exact hpre y h
          · rw [List.mem_singleton.mp h]; exact ⟨Or.inr hn, g1, g2, g3⟩) (fun y hy => hhh y (List.mem_cons_of_mem _ hy)) hf hce hv hcl kk
    · rw [if_neg hcov] at hf
      exact ih (pre ++ [z]) hown hts hK hexc (by rw [htab]; simp) (fun y hy => by
        rcases List.mem_append.mp hy with h | h
        · exact hpre y h
        · rw [List.mem_singleton.mp h]; exact ⟨Or.inl hcov, g1, g2, g3⟩) (fun y hy => hhh y (List.mem_cons_of_mem _ hy)) hf hce hv hcl kk
theorem rk_behind {p : Program} {l : Launch} {e : Env} {R : Room} {s : State} {m : MethodId} {args : Array Value} {below : List Frame} {meth : Method} {c : Code} {T : State} {locs : List Loc} {M N : rk_M} {B B' : rk_B} {P P' : rk_P} {G : rk_G} {As rest : List Value} {h : rk_H} {u : rk_U} {pc : Nat} {lv : List (Option Value)} {ls : Array Slot}
    (X : Stand p l e R s m args below meth c T locs u.1 u.2) (C : rk_Cx M B l p e R s m args meth c G) (con : rk_Con N B' As h P') (hw : rk_wd N ∈ rk_tbl) (hini : Cond.initialized N.1.cls ∈ rk_tbl)
    (hR : rk_R G h T.heap) (hS : rk_S G s.heap T.heap) (hf : ∀ q ∈ locs, G.1 ≤ q.base) (hl : rk_L ls M.2.2.1 lv) {ig : Instr} (hdg : decode c.code pc = .ok (ig, 3)) (hst : (rest.map fun v => v.category).sum + (N.2.2.1 + 11) + B'.2.1 ≤ B.2.1) (hdd : B'.1 + 1 ≤ B.1) (hk : u.1 + B'.2.2.1 ≤ B.2.2.1) (hn : u.2 + B'.2.2.2 ≤ B.2.2.2)
    {mk : MethodId} (hnm : s.methodNamed? N.1 = some mk) (nx : ∀ r h', P' r h' → rk_nx M B P pc lv rest h' (u.1 + B'.2.2.1, u.2 + B'.2.2.2) r) :
    ∃ t2, Steps p.tables e below (doInvoke e (T.setTop (F0 m pc ls rest)) [] mk As.toArray).1 t2 ∧ rk_Q P G B s below t2 := by
  obtain ⟨r, h', o, t, T', L, a1, a2, a3, a4, a5, a6, a8, a9, X', a10, a11⟩ := rk_go X C con hw hini hR hS (g := F0 m pc ls rest) rfl (by rw [C.2.2.1]; exact hl.1) hdg rfl hst hdd hk hn hnm
  have hnx := nx r h' a2
  have hf' : ∀ q ∈ locs ++ L, G.1 ≤ q.base := by
    intro q hq
    rcases List.mem_append.mp hq with h1 | h1
    · exact hf q h1
    · exact a6 q h1
  cases r with
  | inl v =>
    have ho : o = .returned v := a3
    have ht := a10 v ho
    obtain ⟨t2, b1, b2⟩ := hnx l p e R s m args below meth c G T'.heap (locs ++ L) ls C a4 a5 hf' hl T' rfl X'
    exact ⟨t2, a1.trans (by rw [ht]; exact b1), b2⟩
  | inr Cn =>
    obtain ⟨x, cell, ho, c1, c2, c3⟩ := a3
    have ht := a11 x ho
    have htab := C.2.2.2.2.2.2.2.2.1
    unfold rk_nx at hnx
    unfold rk_hh at htab
    cases hM : M.2.2.2.2 with
    | nil =>
      simp only [hM] at hnx
      rw [hM] at htab
      obtain ⟨n1, n2⟩ := hnx
      obtain ⟨l1, l2, l3, l4, l5⟩ := X'.leaveThrown x (g := F0 m pc ls rest) rfl rfl rfl (fun y hy => by rw [htab] at hy; cases hy) C.2.2.2.2.1
      exact ⟨_, a1.trans (by rw [ht]; exact l1), .threw x, l2, l3, ⟨⟨.inr Cn, h', ⟨x, cell, rfl, by show T'.heap[x]? = _; rw [a8]; exact c1, c2, by show T'.vm.findClass _ = _; rw [a9]; exact c3⟩, n1, a4⟩, a5⟩, locs ++ L, ⟨l4, l5.mono n2.1 n2.2⟩, hf'⟩
    | cons q0 qs =>
      simp only [hM] at hnx
      rw [hM] at htab
      obtain ⟨⟨hp, f1, f2⟩, f3, f4⟩ := hnx
      have w := rk_caught (q0 :: qs) [] (p := p) (l := l) (e := e) (R := R) (s := s) (m := m) (args := args) (below := below) (meth := meth) (c := c) (H := T'.heap) (locs := locs ++ L) (cells := u.1 + B'.2.2.1) (slots := u.2 + B'.2.2.2) (Q := rk_Q P G B s below) (ls := ls) (rest := rest) (own := M.1.cls) (E := Cn) (ce := cell) (q := x) (hp := hp) C.2.2.2.2.2.1 C.2.2.2.2.2.2.1 C.2.2.2.2.2.2.2.1 f3 (by rw [htab]; rfl) (fun z hz => by cases hz) f4 f1 (by rw [a8]; exact c1) c2 (by rw [← X'.warmed.alike.findClass, a9]; exact c3) (f2 x l p e R s m args below meth c G T'.heap (locs ++ L) ls C a4 a5 hf' hl)
      obtain ⟨t2, b1, b2⟩ := w T' rfl X'
      exact ⟨t2, a1.trans (by rw [ht]; exact b1), b2⟩
section RKC
variable {M : rk_M} {B : rk_B} {P : rk_P} {pc : Nat} {lv : List (Option Value)} {st : List Value} {h : rk_H} {u : rk_U}
/-- a call's words: the link, or the link between nest mates -/
def rk_lnk (own : String) (idx : Nat) (N : rk_M) : Prop := Cond.methodLink own idx N.1 ∈ rk_tbl ∨ ∃ host : String, Cond.methodLinkNest own idx N.1 host ∈ rk_nst
def rk_cd (N : rk_M) : Prop := rk_wd N ∈ rk_tbl ∧ Cond.initialized N.1.cls ∈ rk_tbl ∧ (N.1.cls ≠ "java/lang/invoke/MethodHandle" ∧ N.1.cls ≠ "java/lang/invoke/VarHandle")
def rk_cS (own : String) (idx : Nat) (N : rk_M) : Prop := rk_lnk own idx N ∧ rk_cd N ∧ Cond.static N.1 ∈ rk_tbl
def rk_cV (own : String) (idx : Nat) (N : rk_M) (ci : Nat) : Prop := rk_lnk own idx N ∧ rk_cd N ∧ Cond.instanceMethod N.1 ∈ rk_tbl ∧ ∃ (C : String) (T : u_T) (K : Nat), vwCl[ci]? = some (C, T, K) ∧ Cond.selects C N.1 N.1 ∈ rk_tbl
def rk_cI (own : String) (idx : Nat) (N : rk_M) : Prop := rk_lnk own idx N ∧ rk_cd N ∧ Cond.instanceMethod N.1 ∈ rk_tbl ∧ N.1.name = "<init>" ∧ N.2.2.2.1 = none ∧ N.2.2.2.2 = []
theorem rk_calls {idx : Nat} {B' : rk_B} {N : rk_M} {P' : rk_P} (As rest : List Value) (w : rk_cS M.1.cls idx N) (hd : decode M.2.1 pc = .ok (.invokestatic idx, 3)) (hs : st = As.reverse ++ rest) (hlen : (parseMethodDescriptor N.1.desc).map (fun q => q.parameters.length) = some As.length) (hst : (rest.map fun v => v.category).sum + (N.2.2.1 + 11) + B'.2.1 ≤ B.2.1) (hdd : B'.1 + 1 ≤ B.1) (hk : u.1 + B'.2.2.1 ≤ B.2.2.1) (hn : u.2 + B'.2.2.2 ≤ B.2.2.2)
    (con : rk_Con N B' As h P') (nx : ∀ r h', P' r h' → rk_nx M B P pc lv rest h' (u.1 + B'.2.2.1, u.2 + B'.2.2.2) r) : rk_Run M B P pc lv st h u := by
  intro l p e R s m args below meth c G H locs ls C hR hS hf hl T hT X
  subst hs
  obtain ⟨hlk, ⟨hw, hini, hy⟩, hstat⟩ := w
  have hts := C.2.2.2.2.2.2.1
  obtain ⟨mk, methM, cM, hnamed, hmethM, -, -, hsigM⟩ := rk_wd_spec (hts _ hw)
  have hstatic : methM.isStatic = true := Cond.static_spec hnamed hmethM (hts _ hstat)
  obtain ⟨kP, hkP, -⟩ := className_of_methodNamed hnamed
  have hinitP : kP.init = .initialized := Cond.initialized_spec (findClass_of_methodNamed hnamed) hkP (hts _ hini)
  have hln : As.length = methM.sig.parameters.length := by rw [hsigM] at hlen; exact (Option.some.inj hlen).symm
  have hdg : decode c.code (F0 m pc ls (As.reverse ++ rest)).pc = .ok (.invokestatic idx, 3) := by rw [C.2.1]; exact hd
  have hstep : ∃ vm₁, Stand p l e R s m args below meth c (T.setVm vm₁) locs u.1 u.2 ∧ ∀ target, (∀ acts, Steps p.tables e below (doInvoke e ((T.setVm vm₁).setTop (F0 m pc ls rest)) acts mk As.toArray).1 target) → Steps p.tables e below (T.setTop (F0 m pc ls (As.reverse ++ rest))) target := by
    rcases hlk with h1 | ⟨host, h1⟩
    · exact X.invokestatic C.1 C.2.2.2.2.2.1 (hts _ h1) hnamed hmethM hstatic hkP hinitP hy (g := F0 m pc ls (As.reverse ++ rest)) rfl (argsL := As) (rest := rest) hln rfl hdg
    · exact X.invokestaticNest C.1 C.2.2.2.2.2.1 (va_Nw.use rfl (C.2.2.2.2.2.2.2.1.2.2.2.2.1 _ h1)) hnamed hmethM hstatic hkP hinitP hy (g := F0 m pc ls (As.reverse ++ rest)) rfl (argsL := As) (rest := rest) hln rfl hdg
  obtain ⟨vm₁, X₁, hstep₁⟩ := hstep
  obtain ⟨t2, a1, b1⟩ := rk_behind (M := M) (P := P) (pc := pc) (lv := lv) (rest := rest) (ls := ls) X₁ C con hw hini (by show rk_R G h T.heap; rw [hT]; exact hR) (by show rk_S G s.heap T.heap; rw [hT]; exact hS) hf hl hdg hst hdd hk hn hnamed nx
  exact ⟨t2, hstep₁ t2 (fun acts => by rw [doInvoke_state]; exact a1), b1⟩
theorem rk_callv {idx ci b : Nat} {B' : rk_B} {fs : List Value} {N : rk_M} {P' : rk_P} (As rest : List Value) (w : rk_cV M.1.cls idx N ci) (hd : decode M.2.1 pc = .ok (.invokevirtual idx, 3)) (hs : st = As.reverse ++ .ref b :: rest) (hlen : (parseMethodDescriptor N.1.desc).map (fun q => q.parameters.length) = some As.length) (hst : (rest.map fun v => v.category).sum + (N.2.2.1 + 11) + B'.2.1 ≤ B.2.1) (hdd : B'.1 + 1 ≤ B.1) (hk : u.1 + B'.2.2.1 ≤ B.2.2.1) (hn : u.2 + B'.2.2.2 ≤ B.2.2.2) (he : h b = some (oB ci fs))
    (con : rk_Con N B' (.ref b :: As) h P') (nx : ∀ r h', P' r h' → rk_nx M B P pc lv rest h' (u.1 + B'.2.2.1, u.2 + B'.2.2.2) r) : rk_Run M B P pc lv st h u := by
  intro l p e R s m args below meth c G H locs ls C hR hS hf hl T hT X
  subst hs
  obtain ⟨hlk, ⟨hw, hini, hy⟩, hinst, C0, T0, K0, hc, hsel⟩ := w
  have hts := C.2.2.2.2.2.2.1
  obtain ⟨mk, methM, cM, hnamed, hmethM, -, -, hsigM⟩ := rk_wd_spec (hts _ hw)
  obtain ⟨mk', methM', hnamed', hmethM', hstM, habM⟩ := Cond.instanceMethod_spec (hts _ hinst)
  cases hnamed.symm.trans hnamed'
  cases hmethM.symm.trans hmethM'
  obtain ⟨r0, hr0, cellB, hcB, g2, g3, -⟩ := (hR b _ he).2
  have hcls : s.vm.findClass C0 = some cellB.cls := by
    have h1 := (C.2.2.2.2.2.2.2.1.1 ci _ hc).2.1
    rw [g2]; exact h1
  obtain ⟨c2, r2, m2, q1, q2, q3, q4, kP, hkP, hkPi⟩ := Cond.selects_spec (hts _ hsel)
  cases hcls.symm.trans q1
  cases (State.methodFound?_of_named hnamed hy).symm.trans q2
  cases hnamed.symm.trans q3
  have hselP : selectMethod e.platform s.vm cellB.cls mk = .method mk := by rw [Launch.admits_selectMethod X.admits]; exact q4
  have hln : As.length = methM.sig.parameters.length := by rw [hsigM] at hlen; exact (Option.some.inj hlen).symm
  have hdg : decode c.code (F0 m pc ls (As.reverse ++ .ref b :: rest)).pc = .ok (.invokevirtual idx, 3) := by rw [C.2.1]; exact hd
  have hcT : T.heap[b]? = some cellB := by rw [hT]; exact hcB
  have hob : ∀ z, cellB.vm ≠ .statics z := fun z q => by rw [g3] at q; cases q
  have hstep : ∃ vm₁, Stand p l e R s m args below meth c (T.setVm vm₁) locs u.1 u.2 ∧ ∀ target, (∀ acts, Steps p.tables e below (doInvoke e ((T.setVm vm₁).setTop (F0 m pc ls rest)) acts mk (Value.ref b :: As).toArray).1 target) → Steps p.tables e below (T.setTop (F0 m pc ls (As.reverse ++ .ref b :: rest))) target := by
    rcases hlk with h1 | ⟨host, h1⟩
    · exact X.invokevirtual C.1 C.2.2.2.2.2.1 (hts _ h1) hnamed hmethM hstM hkP hkPi hy (a := b) (cell := cellB) hcT hob hselP hmethM habM hkP hkPi (g := F0 m pc ls (As.reverse ++ .ref b :: rest)) rfl (argsL := As) (rest := rest) hln rfl hdg
    · exact X.invokevirtualNest C.1 C.2.2.2.2.2.1 (va_Nw.use rfl (C.2.2.2.2.2.2.2.1.2.2.2.2.1 _ h1)) hnamed hmethM hstM hkP hkPi hy (a := b) (cell := cellB) hcT hob hselP hmethM habM hkP hkPi (g := F0 m pc ls (As.reverse ++ .ref b :: rest)) rfl (argsL := As) (rest := rest) hln rfl hdg
  obtain ⟨vm₁, X₁, hstep₁⟩ := hstep
  obtain ⟨t2, a1, b1⟩ := rk_behind (M := M) (P := P) (pc := pc) (lv := lv) (rest := rest) (ls := ls) X₁ C con hw hini (by show rk_R G h T.heap; rw [hT]; exact hR) (by show rk_S G s.heap T.heap; rw [hT]; exact hS) hf hl hdg hst hdd hk hn hnamed nx
  exact ⟨t2, hstep₁ t2 (fun acts => by rw [doInvoke_state]; exact a1), b1⟩
theorem rk_calln {idx b : Nat} {B' : rk_B} {N : rk_M} {P' : rk_P} (As rest : List Value) (w : rk_cI M.1.cls idx N) (hd : decode M.2.1 pc = .ok (.invokespecial idx, 3)) (hs : st = As.reverse ++ .ref b :: rest) (hlen : (parseMethodDescriptor N.1.desc).map (fun q => q.parameters.length) = some As.length) (hst : (rest.map fun v => v.category).sum + (N.2.2.1 + 11) + B'.2.1 ≤ B.2.1) (hdd : B'.1 + 1 ≤ B.1) (hk : u.1 + B'.2.2.1 ≤ B.2.2.1) (hn : u.2 + B'.2.2.2 ≤ B.2.2.2)
    (con : rk_Con N B' (.ref b :: As) h P') (nx : ∀ r h', P' r h' → rk_nx M B P pc lv rest h' (u.1 + B'.2.2.1, u.2 + B'.2.2.2) r) : rk_Run M B P pc lv st h u := by
  intro l p e R s m args below meth c G H locs ls C hR hS hf hl T hT X
  subst hs
  obtain ⟨hlk, ⟨hw, hini, hy⟩, hinst, hy1, hrt, hhh⟩ := w
  have hts := C.2.2.2.2.2.2.1
  have hpl : e.platform.magicAccessors = ({} : Platform).magicAccessors := by rw [X.admits.platform]
  have hcode : (Cond.code N.1 N.2.1 N.2.2.1 none).before args s = true := by
    have hq := hts _ hw
    obtain ⟨y, bs, nL, rt, hh⟩ := N
    dsimp only at hrt hhh
    subst hrt; subst hhh
    exact hq
  have hlen' : ∀ sig, parseMethodDescriptor N.1.desc = some sig → As.length = sig.parameters.length := fun sig hq => by rw [hq] at hlen; exact (Option.some.inj hlen).symm
  have hdg : decode c.code (F0 m pc ls (As.reverse ++ .ref b :: rest)).pc = .ok (.invokespecial idx, 3) := by rw [C.2.1]; exact hd
  have hstep : ∃ mk vm₁, s.methodNamed? N.1 = some mk ∧ s.WarmedH vm₁ ∧ ∀ target, (∀ acts, Steps p.tables e below (doInvoke e ((T.setVm vm₁).setTop (F0 m pc ls rest)) acts mk (Value.ref b :: As).toArray).1 target) → Steps p.tables e below (T.setTop (F0 m pc ls (As.reverse ++ .ref b :: rest))) target := by
    rcases hlk with h1 | ⟨host, h1⟩
    · obtain ⟨mk, methM, cM, kP, vm₁, hnamed, -, -, -, -, -, -, -, hW₁, hs1⟩ := Steps.initColdArgs (e := e) X.here C.1 X.warmed hpl C.2.2.2.2.2.1 hy1 hy (hts _ h1) (hts _ hinst) hcode (f := F0 m pc ls (As.reverse ++ .ref b :: rest)) rfl hlen' rfl hdg
      exact ⟨mk, vm₁, hnamed, hW₁, hs1⟩
    · obtain ⟨mk, methM, cM, kP, vm₁, hnamed, -, -, -, -, -, -, -, hW₁, hs1⟩ := Steps.initColdArgsNest (e := e) X.here C.1 X.warmed hpl C.2.2.2.2.2.1 hy1 hy (va_Nw.use rfl (C.2.2.2.2.2.2.2.1.2.2.2.2.1 _ h1)) (hts _ hinst) hcode (f := F0 m pc ls (As.reverse ++ .ref b :: rest)) rfl hlen' rfl hdg
      exact ⟨mk, vm₁, hnamed, hW₁, hs1⟩
  obtain ⟨mk, vm₁, hnamed, hW₁, hstep₁⟩ := hstep
  have X₁ := X.noted hW₁
  obtain ⟨t2, a1, b1⟩ := rk_behind (M := M) (P := P) (pc := pc) (lv := lv) (rest := rest) (ls := ls) X₁ C con hw hini (by show rk_R G h T.heap; rw [hT]; exact hR) (by show rk_S G s.heap T.heap; rw [hT]; exact hS) hf hl hdg hst hdd hk hn hnamed nx
  exact ⟨t2, hstep₁ t2 (fun acts => by rw [doInvoke_state]; exact a1), b1⟩
/-- the words of 'throw new X(text)' -/
def rk_tw (own : String) (i1 i2 i3 : Nat) (X : String) : Prop :=
  Cond.classLink own i1 X ∈ rk_tbl ∧ Cond.initialized X ∈ rk_tbl ∧ (∃ tx : String, (own, i2, tx) ∈ rk_str) ∧ Bundle.fit X = true ∧
  (∀ w ∈ vx_atS own i3 X ["java/lang/RuntimeException", "java/lang/Exception"], w ∈ rk_tbl ∨ w ∈ rk_nst) ∧ (∀ w ∈ Cond.classLink own i1 X :: Cond.initialized X :: vx_atS own i3 X ["java/lang/RuntimeException", "java/lang/Exception"], vx_ot w = true)
theorem rk_throw {i1 i2 i3 : Nat} {X : String} (w : rk_tw M.1.cls i1 i2 i3 X) (hh : M.2.2.2.2 = []) (hd0 : decode M.2.1 pc = .ok (.new i1, 3)) (hd1 : decode M.2.1 (pc + 3) = .ok (.dup, 1)) (hd2 : decode M.2.1 (pc + 4) = .ok (.ldc i2, 2)) (hd3 : decode M.2.1 (pc + 6) = .ok (.invokespecial i3, 3)) (hd4 : decode M.2.1 (pc + 9) = .ok (.athrow, 1)) (hf6 : 6 ≤ B.1) (hst : (st.map fun v => v.category).sum + 82 ≤ B.2.1) (h1 : u.1 + 1 ≤ B.2.2.1) (h6 : u.2 + 6 ≤ B.2.2.2) (hP : P (.inr X) h) : rk_Run M B P pc lv st h u := by
  intro l p e R s m args below meth c G H locs ls C hR hS hf hl
  obtain ⟨w1, w3, ⟨tx, w4⟩, w5, w8, w9⟩ := w
  have hts := C.2.2.2.2.2.2.1
  have hK := C.2.2.2.2.2.2.2.1
  have hfr := C.2.2.2.2.2.2.2.2.2.1
  have hlo := C.2.2.2.2.2.2.2.2.2.2.1
  have hcl := C.2.2.2.2.2.2.2.2.2.2.2.1
  have hsl := C.2.2.2.2.2.2.2.2.2.2.2.2.1
  obtain ⟨ad, hstr⟩ := hK.2.2.1 _ w4
  have htab := C.2.2.2.2.2.2.2.2.1
  unfold rk_hh at htab
  rw [hh] at htab
  refine rk_Wmono (Q := vx_MQ below (fun _ _ _ _ => False) (fun E st t => E = X ∧ H.size ≤ t.heap.size ∧ ∀ q : Nat, q < H.size → t.heap[q]? = H[q]?) args s B.2.2.1 B.2.2.2 (fun q => G.1 ≤ q)) ?_ ?_
  · rintro t ⟨o, t1, t2, t3⟩
    rcases t3 with ⟨t3, -⟩ | ⟨q, rfl, E, ce, L, ⟨rfl, x1, x2⟩, y1, y2, y3, y4, y5, y6⟩
    · exact t3.elim
    · exact ⟨_, t1, t2, ⟨⟨.inr E, h, ⟨q, ce, rfl, y1, y2, by rw [y4.alike.findClass]; exact y3⟩, hP, hR.kept x2⟩, ⟨⟨Nat.le_trans hS.1.1 x1, Nat.le_trans hS.1.2 x1⟩, fun z hz => by rw [x2 z (Nat.lt_of_lt_of_le hz hS.1.1)]; exact hS.2 z hz⟩⟩, L, ⟨y4, y5⟩, y6⟩
  · exact vx_throwS (A := fun x => G.1 ≤ x) C.1 C.2.1 C.2.2.2.2.2.2.2.2.2.2.2.2.2.2 C.2.2.2.2.2.1 w5 (by decide) (hts _ w1) (hts _ w3) hstr (fun a ha => by
      rcases w8 a ha with q | q
      · exact hts a q
      · have hon : a.onTables = true := rk_nst_on a q
        exact va_Nw.use hon (hK.2.2.2.2.1 a q)) w9 (hK.2.2.2.1 ("java/lang/Throwable", "UNASSIGNED_STACK", "[Ljava/lang/StackTraceElement;") (by simp [rk_sta])) (hK.2.2.2.1 ("java/lang/Throwable", "SUPPRESSED_SENTINEL", "Ljava/util/List;") (by simp [rk_sta]))
      ⟨hS.1.2, fun q _ hq => hS.2 q (Nat.not_le.mp hq), hf⟩ (by rw [C.2.2.1]; exact hl.1) hd0 hd1 hd2 hd3 hd4 (fun y hy => by rw [htab] at hy; cases hy) (by show 2 + 3 < _; omega) (by show _ + (13 * (2 + 1) + 43) ≤ _; omega) (Nat.le_trans h1 hcl) (Nat.le_trans h6 hsl) C.2.2.2.2.1 (fun t _ g1 g2 => ⟨rfl, g1, g2⟩) hf h1 h6
end RKC
