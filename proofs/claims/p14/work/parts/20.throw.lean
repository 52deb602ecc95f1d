/-! Throws: the words that they need, by their places; a throw of a method. -/
def qxn : List String := ["java/lang/RuntimeException", "java/lang/Exception"]
def qxc : List String := ["java/lang/IllegalArgumentException", "java/lang/IndexOutOfBoundsException", "java/lang/IllegalStateException"]
def qxw (q : Cond × Nat × Nat) : Bool := match q.1 with
  | .laysStatic C n d => decide (C = "java/lang/Throwable") && (decide (n = "UNASSIGNED_STACK") && decide (d = "[Ljava/lang/StackTraceElement;") || decide (n = "SUPPRESSED_SENTINEL") && decide (d = "Ljava/util/List;"))
  | .isRef (.static C n d) => decide (C = "java/lang/Throwable") && (decide (n = "UNASSIGNED_STACK") && decide (d = "[Ljava/lang/StackTraceElement;") || decide (n = "SUPPRESSED_SENTINEL") && decide (d = "Ljava/util/List;"))
  | .castable a b => qis q.2 (.castable a b)
  | .declares y => qis q.2 (.declares y)
  | w => qin q.2 w
set_option maxRecDepth 100000 in
theorem qx_w0 : (((Bundle.ownAtoms "NestedArchives" 120 "java/lang/IllegalArgumentException" qxn).zip [(1, 7), (1, 117), (1, 126), (1, 131), (1, 134), (1, 136), (1, 118), (1, 119), (1, 33), (1, 34), (1, 120), (1, 125), (1, 132), (2, 125), (1, 107), (2, 126), (1, 109), (2, 127), (1, 111), (1, 121), (9, 0), (1, 123), (9, 0), (1, 113), (2, 121), (2, 122), (2, 124), (1, 113), (2, 112), (2, 113), (2, 114), (2, 115), (1, 99), (2, 115), (2, 116), (2, 117), (2, 118), (1, 101), (2, 118), (2, 119), (2, 120), (2, 121), (1, 103), (4, 53), (1, 96), (1, 97), (1, 104), (1, 105), (1, 106), (1, 108), (1, 110), (1, 112), (9, 0), (9, 0), (1, 116), (1, 115), (1, 114)]).all qxw && decide ((Bundle.ownAtoms "NestedArchives" 120 "java/lang/IllegalArgumentException" qxn).length ≤ 57)) = true := by decide +kernel
set_option maxRecDepth 100000 in
theorem qx_k0 : (qin (4, 51) (.classLink "NestedArchives" 116 "java/lang/IllegalArgumentException") && qin (1, 10) (.initialized "java/lang/IllegalArgumentException")) = true := by decide +kernel
set_option maxRecDepth 100000 in
theorem qx_w1 : (((Bundle.ownAtoms "NestedArchives" 137 "java/lang/IndexOutOfBoundsException" qxn).zip [(1, 7), (1, 117), (1, 126), (1, 131), (1, 134), (1, 136), (1, 118), (1, 119), (1, 33), (1, 34), (1, 120), (1, 125), (1, 132), (2, 125), (1, 107), (2, 126), (1, 109), (2, 127), (1, 111), (1, 121), (9, 0), (1, 123), (9, 0), (1, 113), (2, 121), (2, 122), (2, 124), (1, 113), (2, 172), (2, 173), (2, 174), (2, 115), (1, 99), (2, 115), (2, 116), (2, 117), (2, 118), (1, 101), (2, 118), (2, 119), (2, 120), (2, 121), (1, 103), (4, 76), (4, 67), (4, 68), (4, 69), (1, 130), (4, 70), (4, 71), (4, 72), (4, 73), (9, 0), (9, 0), (1, 116), (1, 115), (4, 74)]).all qxw && decide ((Bundle.ownAtoms "NestedArchives" 137 "java/lang/IndexOutOfBoundsException" qxn).length ≤ 57)) = true := by decide +kernel
set_option maxRecDepth 100000 in
theorem qx_k1 : (qin (4, 66) (.classLink "NestedArchives" 133 "java/lang/IndexOutOfBoundsException") && qin (1, 20) (.initialized "java/lang/IndexOutOfBoundsException")) = true := by decide +kernel
set_option maxRecDepth 100000 in
theorem qx_w2 : (((Bundle.ownAtoms "NestedArchives" 199 "java/lang/IllegalStateException" qxn).zip [(1, 7), (1, 117), (1, 126), (1, 131), (1, 134), (1, 136), (1, 118), (1, 119), (1, 33), (1, 34), (1, 120), (1, 125), (1, 132), (2, 125), (1, 107), (2, 126), (1, 109), (2, 127), (1, 111), (1, 121), (9, 0), (1, 123), (9, 0), (1, 113), (2, 121), (2, 122), (2, 124), (1, 113), (5, 0), (5, 1), (5, 2), (2, 115), (1, 99), (2, 115), (2, 116), (2, 117), (2, 118), (1, 101), (2, 118), (2, 119), (2, 120), (2, 121), (1, 103), (4, 239), (4, 230), (4, 231), (4, 232), (1, 129), (4, 233), (4, 234), (4, 235), (4, 236), (9, 0), (9, 0), (1, 116), (1, 115), (4, 237)]).all qxw && decide ((Bundle.ownAtoms "NestedArchives" 199 "java/lang/IllegalStateException" qxn).length ≤ 57)) = true := by decide +kernel
set_option maxRecDepth 100000 in
theorem qx_k2 : (qin (4, 229) (.classLink "NestedArchives" 195 "java/lang/IllegalStateException") && qin (1, 26) (.initialized "java/lang/IllegalStateException")) = true := by decide +kernel
/-- of an exception: its class link, its constructor's link -/
def qxi3 (e : Nat) : Option (Nat × Nat) := match e with
  | 0 => some (116, 120)
  | 1 => some (133, 137)
  | 2 => some (195, 199)
  | _ => none
theorem qxw_ok {E : qEv} {ξ : Nat → Option (Nat × List Int32)} {s : State} {args : Array Value} (hts : ∀ w ∈ qgw, w.before args s = true) (hG : qG ξ E s) {l : List Cond} {ps : List (Nat × Nat)} (h : ((l.zip ps).all qxw && decide (l.length ≤ ps.length)) = true) : ∀ w ∈ l, w.before args s = true := by
  intro w hw
  simp only [Bool.and_eq_true, decide_eq_true_eq] at h
  obtain ⟨i, hi⟩ := List.getElem?_of_mem hw
  have hl : i < l.length := (List.getElem?_eq_some_iff.mp hi).1
  have hp : i < ps.length := by omega
  have hz : (l.zip ps)[i]? = some (w, ps[i]) := by rw [List.getElem?_zip_eq_some]; exact ⟨hi, List.getElem?_eq_getElem hp⟩
  have h1 := List.all_eq_true.mp h.1 _ (List.mem_of_getElem? hz)
  obtain ⟨-, -, -, -, hT1, hT2, hT3, hT4⟩ := hG
  unfold qxw at h1
  dsimp only at h1
  split at h1
  · simp only [Bool.and_eq_true, Bool.or_eq_true, decide_eq_true_eq] at h1
    obtain ⟨rfl, ⟨rfl, rfl⟩ | ⟨rfl, rfl⟩⟩ := h1
    · exact hT1.lays
    · exact hT2.lays
  · simp only [Bool.and_eq_true, Bool.or_eq_true, decide_eq_true_eq] at h1
    obtain ⟨rfl, ⟨rfl, rfl⟩ | ⟨rfl, rfl⟩⟩ := h1
    · exact hT1.isRef
    · exact hT2.isRef
  · exact va_Nw.use rfl (hT3 _ (List.mem_filter.mpr ⟨qis_mem h1, rfl⟩))
  · exact va_Nw.use rfl (hT3 _ (List.mem_filter.mpr ⟨qis_mem h1, rfl⟩))
  · exact hts _ (qin_mem h1)
