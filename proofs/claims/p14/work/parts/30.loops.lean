/-! Numbers, places of cells, and the loops that fill. -/
theorem n32 {m : Nat} (h : m < 2147483648) : (Int32.ofNat m).toInt = (m : Int) := Int32.toInt_ofNat_of_lt h
theorem n32c {m : Nat} (h : m < 2147483648) : (Int32.ofNat m).toNatClampNeg = m := by
  show (Int32.ofNat m).toInt.toNat = m
  rw [n32 h]
  rfl
theorem n32le {a b : Nat} (ha : a < 2147483648) (hb : b < 2147483648) : (Int32.ofNat a ≤ Int32.ofNat b) ↔ a ≤ b := by
  rw [Int32.le_iff_toInt_le, n32 ha, n32 hb]
  omega
theorem n32lt {a b : Nat} (ha : a < 2147483648) (hb : b < 2147483648) : (Int32.ofNat a < Int32.ofNat b) ↔ a < b := by
  rw [Int32.lt_iff_toInt_lt, n32 ha, n32 hb]
  omega
theorem n32i (m : Nat) : Int32.ofNat m + Int32.ofInt 1 = Int32.ofNat (m + 1) := (inc_ofNat m).symm
theorem qix_of {x : Int32} {n : Nat} (h0 : 0 ≤ x.toInt) (h1 : x.toInt < n) : qix x n = true := by
  unfold qix
  simp only [Bool.and_eq_true, Bool.not_eq_true', decide_eq_false_iff_not]
  refine ⟨fun z => ?_, ?_⟩
  · have := Int32.lt_iff_toInt_lt.mp z
    have e : (0 : Int32).toInt = 0 := rfl
    omega
  · have e3 : x.toNatClampNeg = x.toInt.toNat := rfl
    exact Nat.ble_eq_true_of_le (show x.toNatClampNeg + 1 ≤ n by omega)
theorem qix_n {m n : Nat} (h : m < n) (hn : n < 2147483648) : qix (Int32.ofNat m) n = true := qix_of (by rw [n32 (by omega)]; omega) (by rw [n32 (by omega)]; omega)
theorem qs_ne {σ : qH} {i j : Nat} {x : Option qC} {y : qC} (h : i ≠ j) (hj : σ[j]? = x) : (σ.set i y)[j]? = x := by rw [List.getElem?_set_ne h]; exact hj
theorem qs_at {σ : qH} {i : Nat} {x y : qC} (hi : σ[i]? = some x) : (σ.set i y)[i]? = some y := List.getElem?_set_self (List.getElem?_eq_some_iff.mp hi).1
theorem qs_id : ∀ {σ : qH} {i : Nat} {x : qC}, σ[i]? = some x → σ.set i x = σ
  | [], _, _, h => by cases h
  | a :: σ, 0, x, h => by cases h; rfl
  | a :: σ, i + 1, x, h => by
    have h1 : σ[i]? = some x := by simpa using h
    rw [List.set_cons_succ, qs_id h1]
theorem getD_set (l : List Int32) (i j : Nat) (v : Int32) (h : i < l.length) : (l.set i v).getD j 0 = if j = i then v else l.getD j 0 := by
  rw [List.getD_eq_getElem?_getD, List.getD_eq_getElem?_getD, List.getElem?_set]
  by_cases hij : i = j
  · subst hij
    simp [h]
  · rw [if_neg hij, if_neg (fun z => hij z.symm)]
section
variable {ξ : Nat → Option (Nat × List Int32)}
/-- java.util.Arrays.fill(int[], int) -/
theorem c_fill2_loop (d i : Nat) (y : Int32) (hn : Nat.blt i qnE = false) : ∀ (f m : Nat) (li : List Int32) (σ : qH), li.length < 2147483648 → m + f = li.length → (∀ t, t < m → li.getD t 0 = y) → σ[i]? = some (.inr (.inl (0, li))) → ∃ li' : List Int32, li'.length = li.length ∧ (∀ t, t < li.length → li'.getD t 0 = y) ∧ G ξ d j_J_fill2 5 [(0, .ref i), (1, .int y), (2, .int (Int32.ofNat m)), (3, .int (Int32.ofNat li.length))] [] σ (none, σ.set i (.inr (.inl (0, li')))) := by
  intro f
  induction f with
  | zero =>
    intro m li σ hl hm hy hi
    refine ⟨li, rfl, fun t ht => hy t (by omega), ?_⟩
    rw [qs_id hi]
    refine G.go 3 (fun n => (rfl : _ = exe ξ n d j_J_fill2 (if Int32.ofNat li.length ≤ Int32.ofNat m then 20 else 10) [(0, .ref i), (1, .int y), (2, .int (Int32.ofNat m)), (3, .int (Int32.ofNat li.length))] [] σ)) ?_
    rw [if_pos ((n32le hl (by omega)).mpr (by omega))]
    exact G.end 1 (fun n => rfl)
  | succ f ih =>
    intro m li σ hl hm hy hi
    obtain ⟨li', h1, h3, h2⟩ := ih (m + 1) (li.set m y) (σ.set i (.inr (.inl (0, li.set m y)))) (by rw [List.length_set]; exact hl) (by rw [List.length_set]; omega) (fun t ht => by
      rw [getD_set _ _ _ _ (by omega)]
      split
      · rfl
      · exact hy t (by omega)) (qs_at hi)
    refine ⟨li', by rw [h1, List.length_set], fun t ht => h3 t (by rw [List.length_set]; exact ht), ?_⟩
    rw [List.length_set, List.set_set] at h2
    refine G.go 3 (fun n => (rfl : _ = exe ξ n d j_J_fill2 (if Int32.ofNat li.length ≤ Int32.ofNat m then 20 else 10) [(0, .ref i), (1, .int y), (2, .int (Int32.ofNat m)), (3, .int (Int32.ofNat li.length))] [] σ)) ?_
    rw [if_neg (fun z => by have := (n32le hl (by omega)).mp z; omega)]
    refine G.go 3 (fun n => (rfl : _ = exe ξ n d j_J_fill2 13 [(0, .ref i), (1, .int y), (2, .int (Int32.ofNat m)), (3, .int (Int32.ofNat li.length))] [.int y, .int (Int32.ofNat m), .ref i] σ)) ?_
    refine G.iast rfl hi (qix_n (by omega) hl) ?_
    rw [n32c (by omega)]
    refine G.go 2 (fun n => (rfl : _ = exe ξ n d j_J_fill2 5 [(0, .ref i), (1, .int y), (2, .int (Int32.ofNat m + Int32.ofInt 1)), (3, .int (Int32.ofNat li.length))] [] (σ.set i (.inr (.inl (0, li.set m y)))))) ?_
    rw [n32i]
    exact h2
theorem c_fill2 (d i : Nat) (y : Int32) (li : List Int32) (σ : qH) (hn : Nat.blt i qnE = false) (hl : li.length < 2147483648) (hi : σ[i]? = some (.inr (.inl (0, li)))) : ∃ li' : List Int32, li'.length = li.length ∧ (∀ t, t < li.length → li'.getD t 0 = y) ∧ G ξ d j_J_fill2 0 (lv_args 0 [.ref i, .int y]) [] σ (none, σ.set i (.inr (.inl (0, li')))) := by
  obtain ⟨li', h1, h3, h2⟩ := c_fill2_loop (ξ := ξ) d i y hn li.length 0 li σ hl (by omega) (fun t ht => absurd ht (by omega)) hi
  refine ⟨li', h1, h3, ?_⟩
  refine G.go 3 (fun n => (rfl : _ = exe ξ n d j_J_fill2 3 [(0, .ref i), (1, .int y), (2, .int 0)] [.ref i] σ)) ?_
  refine G.ilen rfl hn hi ?_
  refine G.go 1 (fun n => (rfl : _ = exe ξ n d j_J_fill2 5 [(0, .ref i), (1, .int y), (2, .int 0), (3, .int (Int32.ofNat li.length))] [] σ)) ?_
  exact h2
/-- java.util.Arrays.fill(int[], int, int, int) -/
theorem c_fill_loop (d i : Nat) (a b y : Int32) (hn : Nat.blt i qnE = false) : ∀ (f m : Nat) (li : List Int32) (σ : qH), li.length < 2147483648 → m + f ≤ li.length → b = Int32.ofNat (m + f) → σ[i]? = some (.inr (.inl (0, li))) → ∃ li' : List Int32, li'.length = li.length ∧ (∀ t, li'.getD t 0 = if m ≤ t ∧ t < m + f then y else li.getD t 0) ∧ G ξ d j_J_fill 10 [(0, .ref i), (1, .int a), (2, .int b), (3, .int y), (4, .int (Int32.ofNat m))] [] σ (none, σ.set i (.inr (.inl (0, li')))) := by
  intro f
  induction f with
  | zero =>
    intro m li σ hl hm hb hi
    refine ⟨li, rfl, fun t => by rw [if_neg (by omega)], ?_⟩
    rw [qs_id hi]
    refine G.go 3 (fun n => (rfl : _ = exe ξ n d j_J_fill (if b ≤ Int32.ofNat m then 27 else 16) [(0, .ref i), (1, .int a), (2, .int b), (3, .int y), (4, .int (Int32.ofNat m))] [] σ)) ?_
    rw [if_pos (by rw [hb]; exact (n32le (by omega) (by omega)).mpr (by omega))]
    exact G.end 1 (fun n => rfl)
  | succ f ih =>
    intro m li σ hl hm hb hi
    obtain ⟨li', h1, h3, h2⟩ := ih (m + 1) (li.set m y) (σ.set i (.inr (.inl (0, li.set m y)))) (by rw [List.length_set]; exact hl) (by rw [List.length_set]; omega) (by rw [hb]; congr 1; omega) (qs_at hi)
    refine ⟨li', by rw [h1, List.length_set], fun t => ?_, ?_⟩
    · rw [h3 t, getD_set _ _ _ _ (by omega)]
      by_cases e : t = m
      · rw [if_neg (by omega), if_pos e, if_pos (by omega)]
      · rw [if_neg e]
        by_cases e2 : m + 1 ≤ t ∧ t < m + 1 + f
        · rw [if_pos e2, if_pos (by omega)]
        · rw [if_neg e2, if_neg (by omega)]
    rw [List.set_set] at h2
    refine G.go 3 (fun n => (rfl : _ = exe ξ n d j_J_fill (if b ≤ Int32.ofNat m then 27 else 16) [(0, .ref i), (1, .int a), (2, .int b), (3, .int y), (4, .int (Int32.ofNat m))] [] σ)) ?_
    rw [if_neg (fun z => by rw [hb] at z; have := (n32le (by omega) (by omega)).mp z; omega)]
    refine G.go 3 (fun n => (rfl : _ = exe ξ n d j_J_fill 20 [(0, .ref i), (1, .int a), (2, .int b), (3, .int y), (4, .int (Int32.ofNat m))] [.int y, .int (Int32.ofNat m), .ref i] σ)) ?_
    refine G.iast rfl hi (qix_n (by omega) hl) ?_
    rw [n32c (by omega)]
    refine G.go 2 (fun n => (rfl : _ = exe ξ n d j_J_fill 10 [(0, .ref i), (1, .int a), (2, .int b), (3, .int y), (4, .int (Int32.ofNat m + Int32.ofInt 1))] [] (σ.set i (.inr (.inl (0, li.set m y)))))) ?_
    rw [n32i]
    exact h2
theorem c_range (d : Nat) (n a b : Int32) (σ : qH) (h1 : a ≤ b) (h2 : 0 ≤ a) (h3 : b ≤ n) : G ξ d j_J_rangeCheck 0 (lv_args 0 [.int n, .int a, .int b]) [] σ (none, σ) := by
  refine G.go 3 (fun n9 => (rfl : _ = exe ξ n9 d j_J_rangeCheck (if a ≤ b then 46 else 5) [(0, .int n), (1, .int a), (2, .int b)] [] σ)) ?_
  rw [if_pos h1]
  refine G.go 2 (fun n9 => (rfl : _ = exe ξ n9 d j_J_rangeCheck (if 0 ≤ a then 59 else 50) [(0, .int n), (1, .int a), (2, .int b)] [] σ)) ?_
  rw [if_pos h2]
  refine G.go 3 (fun n9 => (rfl : _ = exe ξ n9 d j_J_rangeCheck (if b ≤ n then 73 else 64) [(0, .int n), (1, .int a), (2, .int b)] [] σ)) ?_
  rw [if_pos h3]
  exact G.end 1 (fun n => rfl)
theorem c_fill (d i a b : Nat) (y : Int32) (li : List Int32) (σ : qH) (hn : Nat.blt i qnE = false) (hl : li.length < 2147483648) (hab : a ≤ b) (hb : b ≤ li.length) (hi : σ[i]? = some (.inr (.inl (0, li)))) : ∃ li' : List Int32, li'.length = li.length ∧ (∀ t, li'.getD t 0 = if a ≤ t ∧ t < b then y else li.getD t 0) ∧ G ξ (d + 1) j_J_fill 0 (lv_args 0 [.ref i, .int (Int32.ofNat a), .int (Int32.ofNat b), .int y]) [] σ (none, σ.set i (.inr (.inl (0, li')))) := by
  obtain ⟨li', h1, h3, h2⟩ := c_fill_loop (ξ := ξ) (d + 1) i (Int32.ofNat a) (Int32.ofNat b) y hn (b - a) a li σ hl (by omega) (by congr 1; omega) hi
  refine ⟨li', h1, fun t => by rw [h3 t, show a + (b - a) = b by omega], ?_⟩
  refine G.go 1 (fun n => (rfl : _ = exe ξ n (d + 1) j_J_fill 1 [(0, .ref i), (1, .int (Int32.ofNat a)), (2, .int (Int32.ofNat b)), (3, .int y)] [.ref i] σ)) ?_
  refine G.ilen rfl hn hi ?_
  refine G.go 2 (fun n => (rfl : _ = exe ξ n (d + 1) j_J_fill 4 [(0, .ref i), (1, .int (Int32.ofNat a)), (2, .int (Int32.ofNat b)), (3, .int y)] [.int (Int32.ofNat b), .int (Int32.ofNat a), .int (Int32.ofNat li.length)] σ)) ?_
  refine G.call (k := j_J_rangeCheck) (as := [.int (Int32.ofNat li.length), .int (Int32.ofNat a), .int (Int32.ofNat b)]) (r := []) rfl rfl rfl rfl rfl rfl rfl rfl (c_range d _ _ _ σ ((n32le (by omega) (by omega)).mpr hab) (by rw [Int32.le_iff_toInt_le, n32 (by omega)]; show (0 : Int) ≤ _; omega) ((n32le (by omega) hl).mpr hb)) ?_
  refine G.go 2 (fun n => (rfl : _ = exe ξ n (d + 1) j_J_fill 10 [(0, .ref i), (1, .int (Int32.ofNat a)), (2, .int (Int32.ofNat b)), (3, .int y), (4, .int (Int32.ofNat a))] [] σ)) ?_
  exact h2
end
