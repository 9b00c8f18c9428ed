/-! my own names, written by program out of the Statement: words by their places, classes, methods, links -/
def rk_tbl : List Cond := lw_tbl.filter goodWord
theorem rk_good (w : Cond) (h : w ∈ rk_tbl) : (w.onTables && w.keeps) = true ∨ ∃ ty, w = .arrayClass ty := good_of_word (List.mem_filter.mp h).2
theorem in_t1 {w : Cond} (i : Nat) (h : tables_1_1[i]? = some w) (g : goodWord w = true) : w ∈ rk_tbl := by
  have q := List.mem_of_getElem? h
  exact List.mem_filter.mpr ⟨List.mem_append_right _ (show w ∈ tables_1_1 ++ (tables_1_2 ++ (tables_1_3 ++ (tables_1_4 ++ tables_1_5))) from List.mem_append_left _ q), g⟩
theorem in_t2 {w : Cond} (i : Nat) (h : tables_1_2[i]? = some w) (g : goodWord w = true) : w ∈ rk_tbl := by
  have q := List.mem_of_getElem? h
  exact List.mem_filter.mpr ⟨List.mem_append_right _ (show w ∈ tables_1_1 ++ (tables_1_2 ++ (tables_1_3 ++ (tables_1_4 ++ tables_1_5))) from List.mem_append_right _ (List.mem_append_left _ q)), g⟩
theorem in_t3 {w : Cond} (i : Nat) (h : tables_1_3[i]? = some w) (g : goodWord w = true) : w ∈ rk_tbl := by
  have q := List.mem_of_getElem? h
  exact List.mem_filter.mpr ⟨List.mem_append_right _ (show w ∈ tables_1_1 ++ (tables_1_2 ++ (tables_1_3 ++ (tables_1_4 ++ tables_1_5))) from List.mem_append_right _ (List.mem_append_right _ (List.mem_append_left _ q))), g⟩
theorem in_t4 {w : Cond} (i : Nat) (h : tables_1_4[i]? = some w) (g : goodWord w = true) : w ∈ rk_tbl := by
  have q := List.mem_of_getElem? h
  exact List.mem_filter.mpr ⟨List.mem_append_right _ (show w ∈ tables_1_1 ++ (tables_1_2 ++ (tables_1_3 ++ (tables_1_4 ++ tables_1_5))) from List.mem_append_right _ (List.mem_append_right _ (List.mem_append_right _ (List.mem_append_left _ q)))), g⟩
theorem in_t5 {w : Cond} (i : Nat) (h : tables_1_5[i]? = some w) (g : goodWord w = true) : w ∈ rk_tbl := by
  have q := List.mem_of_getElem? h
  exact List.mem_filter.mpr ⟨List.mem_append_right _ (show w ∈ tables_1_1 ++ (tables_1_2 ++ (tables_1_3 ++ (tables_1_4 ++ tables_1_5))) from List.mem_append_right _ (List.mem_append_right _ (List.mem_append_right _ (List.mem_append_right _ q)))), g⟩
theorem in_tp {w : Cond} (i : Nat) (h : (k2_sels lw_privs)[i]? = some w) (g : goodWord w = true) : w ∈ rk_tbl := List.mem_filter.mpr ⟨List.mem_append_left _ (List.mem_of_getElem? h), g⟩
def ttG : u_T := fun k => match k with
  | 0 => ("TensorForge$Graph", "nodes", "[LTensorForge$Node;", true)
  | 1 => ("TensorForge$Graph", "standsFor", "[I", true)
  | 2 => ("TensorForge$Graph", "state", "[I", true)
  | 3 => ("TensorForge$Graph", "step", "[I", true)
  | 4 => ("TensorForge$Graph", "place", "[I", true)
  | 5 => ("TensorForge$Graph", "count", "I", false)
  | 6 => ("TensorForge$Graph", "steps", "I", false)
  | 7 => ("TensorForge$Graph", "peak", "I", false)
  | _ => ("TensorForge$Graph", "lastStep", "[I", true)
def tyG : Nat → FieldType := fun k => match k with
  | 0 => (.array (.object "TensorForge$Node"))
  | 1 => (.array .int)
  | 2 => (.array .int)
  | 3 => (.array .int)
  | 4 => (.array .int)
  | 5 => .int
  | 6 => .int
  | 7 => .int
  | _ => (.array .int)
def ttM : u_T := fun k => match k with
  | 0 => ("TensorForge$Machine", "weightCells", "[I", true)
  | 1 => ("TensorForge$Machine", "cells", "[I", true)
  | 2 => ("TensorForge$Machine", "arenaCells", "I", false)
  | 3 => ("TensorForge$Machine", "resultPlace", "I", false)
  | 4 => ("TensorForge$Machine", "resultCells", "I", false)
  | 5 => ("TensorForge$Machine", "resultScale", "D", false)
  | 6 => ("TensorForge$Machine", "window", "LTensorForge$Window;", true)
  | 7 => ("TensorForge$Machine", "scaler", "LTensorForge$Scaler;", true)
  | _ => ("TensorForge$Machine", "otherScaler", "LTensorForge$Scaler;", true)
def tyM : Nat → FieldType := fun k => match k with
  | 0 => (.array .int)
  | 1 => (.array .int)
  | 2 => .int
  | 3 => .int
  | 4 => .int
  | 5 => .double
  | 6 => (.object "TensorForge$Window")
  | 7 => (.object "TensorForge$Scaler")
  | _ => (.object "TensorForge$Scaler")
def ttN : u_T := fun k => match k with
  | 0 => ("TensorForge$Node", "kind", "I", true)
  | 1 => ("TensorForge$Node", "one", "I", true)
  | 2 => ("TensorForge$Node", "other", "I", true)
  | 3 => ("TensorForge$Node", "h", "I", true)
  | 4 => ("TensorForge$Node", "w", "I", true)
  | 5 => ("TensorForge$Node", "c", "I", true)
  | 6 => ("TensorForge$Node", "cells", "I", true)
  | 7 => ("TensorForge$Node", "scale", "D", true)
  | 8 => ("TensorForge$Node", "fed", "[I", true)
  | 9 => ("TensorForge$Node", "code", "I", false)
  | 10 => ("TensorForge$Node", "offset", "I", false)
  | 11 => ("TensorForge$Node", "weightScale", "D", false)
  | 12 => ("TensorForge$Node", "low", "I", false)
  | 13 => ("TensorForge$Node", "high", "I", false)
  | 14 => ("TensorForge$Node", "ratio", "D", false)
  | _ => ("TensorForge$Node", "otherRatio", "D", false)
def tyN : Nat → FieldType := fun k => match k with
  | 0 => .int
  | 1 => .int
  | 2 => .int
  | 3 => .int
  | 4 => .int
  | 5 => .int
  | 6 => .int
  | 7 => .double
  | 8 => (.array .int)
  | 9 => .int
  | 10 => .int
  | 11 => .double
  | 12 => .int
  | 13 => .int
  | 14 => .double
  | _ => .double
def ttS : u_T := fun k => match k with
  | 0 => ("TensorForge$Scaler", "multiplier", "J", false)
  | _ => ("TensorForge$Scaler", "shift", "I", false)
def tyS : Nat → FieldType := fun k => match k with
  | 0 => .long
  | _ => .int
def ttW : u_T := fun k => match k with
  | 0 => ("TensorForge$Window", "k", "I", false)
  | 1 => ("TensorForge$Window", "top", "I", false)
  | 2 => ("TensorForge$Window", "left", "I", false)
  | 3 => ("TensorForge$Window", "firstRow", "I", false)
  | 4 => ("TensorForge$Window", "endRow", "I", false)
  | 5 => ("TensorForge$Window", "firstColumn", "I", false)
  | 6 => ("TensorForge$Window", "endColumn", "I", false)
  | 7 => ("TensorForge$Window", "step", "I", false)
  | 8 => ("TensorForge$Window", "rows", "I", false)
  | 9 => ("TensorForge$Window", "columns", "I", false)
  | 10 => ("TensorForge$Window", "rowsBefore", "I", false)
  | _ => ("TensorForge$Window", "columnsBefore", "I", false)
def tyW : Nat → FieldType := fun k => match k with
  | 0 => .int
  | 1 => .int
  | 2 => .int
  | 3 => .int
  | 4 => .int
  | 5 => .int
  | 6 => .int
  | 7 => .int
  | 8 => .int
  | 9 => .int
  | 10 => .int
  | _ => .int
def ttT : u_T := fun k => match k with
  | 0 => ("TensorForge", "graph", "LTensorForge$Graph;", true)
  | 1 => ("TensorForge", "machine", "LTensorForge$Machine;", true)
  | 2 => ("TensorForge", "currentWeightScale", "D", false)
  | 3 => ("TensorForge", "outputNode", "I", false)
  | _ => ("TensorForge", "compiled", "Z", false)
def tyT : Nat → FieldType := fun k => match k with
  | 0 => (.object "TensorForge$Graph")
  | 1 => (.object "TensorForge$Machine")
  | 2 => .double
  | 3 => .int
  | _ => .boolean
def ttR : u_T := fun k => match k with
  | 0 => ("TensorForgeModel", "failed", "I", false)
  | 1 => ("TensorForgeModel", "weight", "[I", true)
  | 2 => ("TensorForgeModel", "weightScale", "D", false)
  | 3 => ("TensorForgeModel", "kind", "[I", true)
  | 4 => ("TensorForgeModel", "one", "[I", true)
  | 5 => ("TensorForgeModel", "two", "[I", true)
  | 6 => ("TensorForgeModel", "high", "[I", true)
  | 7 => ("TensorForgeModel", "wide", "[I", true)
  | 8 => ("TensorForgeModel", "deep", "[I", true)
  | 9 => ("TensorForgeModel", "scale", "[D", true)
  | 10 => ("TensorForgeModel", "nodeWeightScale", "[D", true)
  | 11 => ("TensorForgeModel", "code", "[I", true)
  | 12 => ("TensorForgeModel", "offset", "[I", true)
  | 13 => ("TensorForgeModel", "low", "[I", true)
  | 14 => ("TensorForgeModel", "top", "[I", true)
  | 15 => ("TensorForgeModel", "cell", "[I", true)
  | 16 => ("TensorForgeModel", "fed", "[I", true)
  | 17 => ("TensorForgeModel", "nodes", "I", false)
  | 18 => ("TensorForgeModel", "output", "I", false)
  | 19 => ("TensorForgeModel", "compiled", "Z", false)
  | 20 => ("TensorForgeModel", "stands", "[I", true)
  | 21 => ("TensorForgeModel", "role", "[I", true)
  | 22 => ("TensorForgeModel", "step", "[I", true)
  | 23 => ("TensorForgeModel", "last", "[I", true)
  | 24 => ("TensorForgeModel", "place", "[I", true)
  | 25 => ("TensorForgeModel", "steps", "I", false)
  | 26 => ("TensorForgeModel", "peak", "I", false)
  | 27 => ("TensorForgeModel", "arena", "[I", true)
  | 28 => ("TensorForgeModel", "arenaSize", "I", false)
  | 29 => ("TensorForgeModel", "shown", "[I", true)
  | 30 => ("TensorForgeModel", "shownSize", "I", false)
  | _ => ("TensorForgeModel", "shownScale", "D", false)
def tyR : Nat → FieldType := fun k => match k with
  | 0 => .int
  | 1 => (.array .int)
  | 2 => .double
  | 3 => (.array .int)
  | 4 => (.array .int)
  | 5 => (.array .int)
  | 6 => (.array .int)
  | 7 => (.array .int)
  | 8 => (.array .int)
  | 9 => (.array .double)
  | 10 => (.array .double)
  | 11 => (.array .int)
  | 12 => (.array .int)
  | 13 => (.array .int)
  | 14 => (.array .int)
  | 15 => (.array .int)
  | 16 => (.array .int)
  | 17 => .int
  | 18 => .int
  | 19 => .boolean
  | 20 => (.array .int)
  | 21 => (.array .int)
  | 22 => (.array .int)
  | 23 => (.array .int)
  | 24 => (.array .int)
  | 25 => .int
  | 26 => .int
  | 27 => (.array .int)
  | 28 => .int
  | 29 => (.array .int)
  | 30 => .int
  | _ => .double
abbrev vwCl : List vw_C := [("TensorForge$Graph", ttG, 9), ("TensorForge$Machine", ttM, 9), ("TensorForge$Node", ttN, 16), ("TensorForge$Scaler", ttS, 2), ("TensorForge$Window", ttW, 12), ("TensorForge", ttT, 5), ("TensorForgeModel", ttR, 32)]
def rk_ty : List FieldType := [.int, .long, .double, .object "TensorForge$Node"]
def rk_str : List (String × Nat × String) := [("TensorForge", 224, "an argument is out of range or does not go with the others"), ("TensorForge", 247, "all nodes are there"), ("TensorForge", 244, "a ratio is not good"), ("TensorForge", 146, "there is no output"), ("TensorForge", 249, "not compiled"), ("TensorForge", 171, "the arena is below the peak"), ("TensorForge", 253, "no such cell, step or place")]
def rk_sta : List (String × String × String) := [("java/lang/Throwable", "UNASSIGNED_STACK", "[Ljava/lang/StackTraceElement;"), ("java/lang/Throwable", "SUPPRESSED_SENTINEL", "Ljava/util/List;")]
def rk_exc : List String := ["java/lang/IllegalArgumentException", "java/lang/IllegalStateException", "java/lang/ArithmeticException", "java/lang/UnsupportedOperationException", "java/util/NoSuchElementException"]
def rk_ncp : List (String × String) := [("java/lang/IllegalArgumentException", "java/lang/IllegalStateException"), ("java/lang/IllegalArgumentException", "java/lang/ArithmeticException"), ("java/lang/IllegalArgumentException", "java/lang/UnsupportedOperationException"), ("java/lang/IllegalArgumentException", "java/util/NoSuchElementException"), ("java/lang/IllegalStateException", "java/lang/IllegalArgumentException"), ("java/lang/IllegalStateException", "java/lang/ArithmeticException"), ("java/lang/IllegalStateException", "java/lang/UnsupportedOperationException"), ("java/lang/IllegalStateException", "java/util/NoSuchElementException"), ("java/lang/ArithmeticException", "java/lang/IllegalArgumentException"), ("java/lang/ArithmeticException", "java/lang/IllegalStateException"), ("java/lang/ArithmeticException", "java/lang/UnsupportedOperationException"), ("java/lang/ArithmeticException", "java/util/NoSuchElementException"), ("java/lang/UnsupportedOperationException", "java/lang/IllegalArgumentException"), ("java/lang/UnsupportedOperationException", "java/lang/IllegalStateException"), ("java/lang/UnsupportedOperationException", "java/lang/ArithmeticException"), ("java/lang/UnsupportedOperationException", "java/util/NoSuchElementException"), ("java/util/NoSuchElementException", "java/lang/IllegalArgumentException"), ("java/util/NoSuchElementException", "java/lang/IllegalStateException"), ("java/util/NoSuchElementException", "java/lang/ArithmeticException"), ("java/util/NoSuchElementException", "java/lang/UnsupportedOperationException")]
def rk_nst : List Cond := [.methodLinkNest "TensorForge$Machine" 20 ⟨"TensorForge$Window", "<init>", "()V"⟩ "TensorForge", .methodLinkNest "TensorForge$Machine" 27 ⟨"TensorForge$Scaler", "<init>", "()V"⟩ "TensorForge", .castable "java/lang/IllegalArgumentException" "java/lang/IllegalArgumentException", .castable "java/lang/IllegalStateException" "java/lang/IllegalStateException", .castable "java/lang/ArithmeticException" "java/lang/ArithmeticException", .castable "java/lang/UnsupportedOperationException" "java/lang/UnsupportedOperationException", .castable "java/util/NoSuchElementException" "java/util/NoSuchElementException", .declares ⟨"java/lang/RuntimeException", "<init>", "()V"⟩, .declares ⟨"java/lang/RuntimeException", "<init>", "(Ljava/lang/String;)V"⟩, .declares ⟨"java/lang/Exception", "<init>", "()V"⟩, .declares ⟨"java/lang/Exception", "<init>", "(Ljava/lang/String;)V"⟩, .declares ⟨"java/lang/Throwable", "<init>", "()V"⟩, .declares ⟨"java/lang/Throwable", "<init>", "(Ljava/lang/String;)V"⟩]
def rk_nk : Cond → Bool
  | .methodLinkNest .. => true
  | .castable .. => true
  | .declares .. => true
  | _ => false
theorem rk_nst_k : ∀ w ∈ rk_nst, rk_nk w = true := by decide +kernel
theorem rk_nst_on (w : Cond) (h : w ∈ rk_nst) : w.onTables = true := by
  have k := rk_nst_k w h
  cases w <;> first | (cases k; done) | rfl
theorem rk_nst_warm (w : Cond) (h : w ∈ rk_nst) {s U : State} (hW : s.WarmedH U.vm) (hZ : va_Nw w s) : va_Nw w U := by
  have k := rk_nst_k w h
  cases w <;> first | (cases k; done) | exact va_Nw.warmM hW hZ | exact va_Nw.warmC hW hZ | exact va_Nw.warmD hW hZ
