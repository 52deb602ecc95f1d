/-! class Row: contracts -/
section
variable {ξ : Nat → Option (Nat × List Int32)}
/-- a row: the object at i, its bytes at b -/
def isRow (σ : qH) (i b : Nat) (m len : Int32) (li : List Int32) : Prop := σ[i]? = some (.inl (5, [.int m, .ref b, .int len])) ∧ σ[b]? = some (.inr (.inl (1, li))) ∧ Nat.blt b qnE = false ∧ Nat.blt i qnE = false
/-- its length is one that its bytes have -/
def rowOk (len : Int32) (li : List Int32) : Prop := 0 ≤ len ∧ len.toNatClampNeg ≤ li.length ∧ len ≤ 8000
theorem rowOk_ix {len x : Int32} {li : List Int32} (h : rowOk len li) (h0 : ¬ x < 0) (h1 : x < len) : qix x li.length = true := by
  obtain ⟨a1, a2, a3⟩ := h
  unfold qix
  simp only [Bool.and_eq_true, Bool.not_eq_true', decide_eq_false_iff_not]
  refine ⟨h0, ?_⟩
  have e1 : x.toInt < len.toInt := Int32.lt_iff_toInt_lt.mp h1
  have e2 : ¬ x.toInt < 0 := fun z => h0 (Int32.lt_iff_toInt_lt.mpr z)
  have e3 : x.toNatClampNeg = x.toInt.toNat := rfl
  have e4 : len.toNatClampNeg = len.toInt.toNat := rfl
  exact Nat.ble_eq_true_of_le (show x.toNatClampNeg + 1 ≤ li.length by omega)
theorem c_row_at (d i b : Nat) (m len x : Int32) (li : List Int32) (σ : qH) (hr : isRow σ i b m len li) (ho : rowOk len li) : G ξ d j_R_at 0 (lv_args 0 [.ref i, .int x]) [] σ (some (.int (rw_at li len x)), σ) :=
  c_R_at d i b m len x li σ hr.1 hr.2.1 hr.2.2.1 (fun h0 h1 => rowOk_ix ho h0 (Int32.not_le.mp h1))
/-- Row.two -/
def rw_two (li : List Int32) (len x : Int32) : Int32 := if x < 0 then -1 else if len - 1 ≤ x then -1 else (li.getD x.toNatClampNeg 0 &&& 255) ||| ((li.getD (x + 1).toNatClampNeg 0 &&& 255) <<< ((8 : Int32) &&& 31))
theorem c_row_two (d i b : Nat) (m len x : Int32) (li : List Int32) (σ : qH) (hr : isRow σ i b m len li) (ho : rowOk len li) : G ξ d j_R_two 0 (lv_args 0 [.ref i, .int x]) [] σ (some (.int (rw_two li len x)), σ) := by
  obtain ⟨hi, hb, hn, hn2⟩ := hr
  refine G.go 2 (fun n => (rfl : _ = exe ξ n d j_R_two (if x < 0 then 43 else 4) [(0, .ref i), (1, .int x)] [] σ)) ?_
  unfold rw_two
  split
  · exact G.end 2 (fun n => rfl)
  · rename_i c1
    refine G.go 2 (fun n => (rfl : _ = exe ξ n d j_R_two 6 [(0, .ref i), (1, .int x)] [.ref i, .int x] σ)) ?_
    refine G.get rfl rfl rfl hi rfl ?_
    refine G.go 3 (fun n => (rfl : _ = exe ξ n d j_R_two (if len - 1 ≤ x then 43 else 14) [(0, .ref i), (1, .int x)] [] σ)) ?_
    split
    · exact G.end 2 (fun n => rfl)
    · rename_i c2
      have e0 : ¬ x.toInt < 0 := fun z => c1 (Int32.lt_iff_toInt_lt.mpr z)
      have h8 : len.toInt ≤ 8000 := Int32.le_iff_toInt_le.mp ho.2.2
      have h9 : 0 ≤ len.toInt := Int32.le_iff_toInt_le.mp ho.1
      have hs : (len - 1).toInt = len.toInt - 1 := by
        rw [Int32.toInt_sub]
        have : (1 : Int32).toInt = 1 := rfl
        rw [this]
        exact Int.bmod_eq_of_le (by omega) (by omega)
      have e2 : x.toInt < len.toInt - 1 := by
        have := Int32.not_le.mp c2
        have := Int32.lt_iff_toInt_lt.mp this
        omega
      have hx1 : (x + 1).toInt = x.toInt + 1 := by
        rw [Int32.toInt_add]
        have : (1 : Int32).toInt = 1 := rfl
        rw [this]
        exact Int.bmod_eq_of_le (by omega) (by omega)
      refine G.go 1 (fun n => (rfl : _ = exe ξ n d j_R_two 15 [(0, .ref i), (1, .int x)] [.ref i] σ)) ?_
      refine G.get rfl rfl rfl hi rfl ?_
      refine G.go 1 (fun n => (rfl : _ = exe ξ n d j_R_two 19 [(0, .ref i), (1, .int x)] [.int x, .ref b] σ)) ?_
      refine G.bald rfl hn hb (rowOk_ix ho c1 (Int32.lt_iff_toInt_lt.mpr (by omega))) ?_
      refine G.go 3 (fun n => (rfl : _ = exe ξ n d j_R_two 25 [(0, .ref i), (1, .int x)] [.ref i, .int (li.getD x.toNatClampNeg 0 &&& 255)] σ)) ?_
      refine G.get rfl rfl rfl hi rfl ?_
      refine G.go 3 (fun n => (rfl : _ = exe ξ n d j_R_two 31 [(0, .ref i), (1, .int x)] [.int (x + 1), .ref b, .int (li.getD x.toNatClampNeg 0 &&& 255)] σ)) ?_
      refine G.bald rfl hn hb (rowOk_ix ho (fun z => by have := Int32.lt_iff_toInt_lt.mp z; rw [hx1] at this; have : (0 : Int32).toInt = 0 := rfl; omega) (Int32.lt_iff_toInt_lt.mpr (by omega))) ?_
      exact G.end 7 (fun n => rfl)
/-- Row.four -/
def rw_four (li : List Int32) (len x : Int32) : Int64 := (rw_two li len x).toInt64 ||| ((rw_two li len (x + 2)).toInt64 <<< ((16 : Int32).toInt64 &&& 63))
theorem qrc_row {σ : qH} {i b : Nat} {m len : Int32} {li : List Int32} (hr : isRow σ i b m len li) (k : Nat) (hk : qco k = 5) : qrc σ i k = true := by
  unfold qrc
  rw [hr.2.2.2, hr.1, hk]
  rfl
theorem c_row_four (d i b : Nat) (m len x : Int32) (li : List Int32) (σ : qH) (hr : isRow σ i b m len li) (ho : rowOk len li) : G ξ (d + 1) j_R_four 0 (lv_args 0 [.ref i, .int x]) [] σ (some (.long (rw_four li len x)), σ) := by
  refine G.go 2 (fun n => (rfl : _ = exe ξ n (d + 1) j_R_four 2 [(0, .ref i), (1, .int x)] [.int x, .ref i] σ)) ?_
  refine G.call (k := j_R_two) (as := [.ref i, .int x]) (r := []) rfl rfl rfl rfl rfl rfl rfl ?_ (c_row_two d i b m len x li σ hr ho) ?_
  · show (bif qrc σ i j_R_two && _ then _ else _) = _
    rw [qrc_row hr _ rfl]
    rfl
  refine G.go 5 (fun n => (rfl : _ = exe ξ n (d + 1) j_R_four 10 [(0, .ref i), (1, .int x)] [.int (x + 2), .ref i, .long (rw_two li len x).toInt64] σ)) ?_
  refine G.call (k := j_R_two) (as := [.ref i, .int (x + 2)]) (r := [.long (rw_two li len x).toInt64]) rfl rfl rfl rfl rfl rfl rfl ?_ (c_row_two d i b m len (x + 2) li σ hr ho) ?_
  · show (bif qrc σ i j_R_two && _ then _ else _) = _
    rw [qrc_row hr _ rfl]
    rfl
  exact G.end 5 (fun n => rfl)
end
