/-! Constructors: what cells they lay. -/
theorem qA_get (σ cs : qH) (k : Nat) : (σ ++ cs)[σ.length + k]? = cs[k]? := by rw [List.getElem?_append_right (Nat.le_add_right _ _), Nat.add_sub_cancel_left]
theorem qA_set (σ cs : qH) (k : Nat) (c : qC) : (σ ++ cs).set (σ.length + k) c = σ ++ cs.set k c := by rw [List.set_append_right _ _ (Nat.le_add_right _ _), Nat.add_sub_cancel_left]
section
variable {ξ : Nat → Option (Nat × List Int32)} {d j pc : Nat} {lv : qLV} {st r : List Value} {σ cs : qH} {o : Option Value × qH}
theorem G.getA {idx ci k k9 : Nat} {nb : Bool} {q : Nat × Nat} {fs : List Value} {v : Value} (hf : qfe j pc = some (.getfield idx, 3)) (hx : qlk (qxL.getD (qco j) []) idx = none) (hl : qlk (qfL.getD (qco j) []) idx = some ((ci, k, nb), q)) (hi : cs[k9]? = some (.inl (ci, fs))) (hv : fs[k]? = some v) (g : G ξ d j (pc + 3) lv (v :: r) (σ ++ cs) o) : G ξ d j pc lv (.ref (σ.length + k9) :: r) (σ ++ cs) o := G.get hf hx hl (by rw [qA_get]; exact hi) hv g
theorem G.putA {idx ci k k9 : Nat} {nb : Bool} {q : Nat × Nat} {fs : List Value} {v : Value} (hf : qfe j pc = some (.putfield idx, 3)) (hl : qlk (qfL.getD (qco j) []) idx = some ((ci, k, nb), q)) (hi : cs[k9]? = some (.inl (ci, fs))) (hk : Nat.blt k fs.length = true) (hv : qfit (qcty ci k) v = true) (hn : (!(qfn ci k).2.2.2 || (!nb && (qisI j && Nat.beq ci (qco j)))) = true) (g : G ξ d j (pc + 3) lv r (σ ++ cs.set k9 (.inl (ci, fs.set k v))) o) : G ξ d j pc lv (v :: .ref (σ.length + k9) :: r) (σ ++ cs) o := G.put hf hl (by rw [qA_get]; exact hi) hk hv hn (by rw [qA_set]; exact g)
theorem G.aloA {ins : Instr} {len : Nat} {st' : List Value} {c1 : qC} (hf : qfe j pc = some (ins, len)) (h0 : qsim (qnl j) ins len lv st = none) (h1 : qjmp ins len pc st = none) (h2 : qrd ξ (qco j) ins len st (σ ++ cs) = none) (h3 : qwr (qisI j) (qco j) ins len st (σ ++ cs) = none) (h : qal (qco j) ins len st = some (st', c1)) (g : G ξ d j (pc + len) lv (.ref (σ.length + cs.length) :: st') (σ ++ (cs ++ [c1])) o) : G ξ d j pc lv st (σ ++ cs) o := G.go 1 (fun n => ex_al hf h0 h1 h2 h3 h) (by rw [List.length_append, List.append_assoc]; exact g)
theorem qal_int {co : Nat} {n : Int32} {r : List Value} (h8 : (!(decide (n < 0))) = true) (h9 : Nat.ble n.toNatClampNeg 100000 = true) : qal co (.newarray .int) 2 (.int n :: r) = some (r, .inr (.inl (0, List.replicate n.toNatClampNeg 0))) := by
  unfold qal
  simp only [h8, h9, Bool.and_self, cond_true]
theorem newSub {k : Nat} {as : List Value} {o : qC} {cX : Nat → qH} (hc : ∀ (τ : qH) (L : Nat), L = τ.length → G ξ d k 0 (lv_args 0 (.ref L :: as)) [] (τ ++ [o]) (none, τ ++ cX L)) (σ cs : qH) : G ξ d k 0 (lv_args 0 (.ref (σ.length + cs.length) :: as)) [] (σ ++ (cs ++ [o])) (none, σ ++ (cs ++ cX (σ.length + cs.length))) := by
  have h := hc (σ ++ cs) (σ.length + cs.length) (by rw [List.length_append])
  rw [List.append_assoc, List.append_assoc] at h
  exact h
end
section
variable {ξ : Nat → Option (Nat × List Int32)}
def cRow (L : Nat) (m : Int32) : qH := .inl (5, [.int (if m < 0 then 0 else m), .ref (L + 1), .int 0]) :: [.inr (.inl (1, List.replicate 0 0))]
set_option maxRecDepth 100000 in
theorem c_R_init (d : Nat) (m : Int32) (σ : qH) (L : Nat) (hL : L = σ.length) : G ξ (d + 1) j_R_init 0 (lv_args 0 [.ref L, .int m]) [] (σ ++ [.inl (5, qnew 5)]) (none, σ ++ cRow L m) := by
  subst hL
  refine G.go 4 (fun n => (rfl : _ = exe ξ n (d + 1) j_R_init 6 [(0, .ref σ.length), (1, .int m)] [.int 0, .ref σ.length] (σ ++ (.inl (5, qnew 5) :: [])))) ?_
  refine G.aloA rfl rfl rfl rfl rfl rfl ?_
  refine G.putA (k9 := 0) rfl rfl rfl rfl rfl rfl ?_
  refine G.go 2 (fun n => (rfl : _ = exe ξ n (d + 1) j_R_init 13 [(0, .ref σ.length), (1, .int m)] [.int 0, .ref σ.length] (σ ++ (.inl (5, [.int 0, .ref (σ.length + 1), .int 0]) :: [.inr (.inl (1, List.replicate 0 0))])))) ?_
  refine G.putA (k9 := 0) rfl rfl rfl rfl rfl rfl ?_
  refine G.go 4 (fun n => (rfl : _ = exe ξ n (d + 1) j_R_init 22 [(0, .ref σ.length), (1, .int m)] [.int (if m < 0 then 0 else m), .ref σ.length] (σ ++ (.inl (5, [.int 0, .ref (σ.length + 1), .int 0]) :: [.inr (.inl (1, List.replicate 0 0))])))) ?_
  refine G.putA (k9 := 0) rfl rfl rfl rfl rfl rfl ?_
  exact G.end 1 (fun n => rfl)
def cCod (L : Nat) (m : Int32) : qH := .inl (2, [.ref (L + 1), .ref (L + 2), .ref (L + 3)]) :: (([.inr (.inl (0, List.replicate 16 0))] ++ [.inr (.inl (0, List.replicate 16 0))]) ++ [.inr (.inl (0, List.replicate ((if m < 0 then 0 else m)).toNatClampNeg 0))])
set_option maxRecDepth 100000 in
theorem c_C_init (d : Nat) (m : Int32) (h9 : Nat.ble (if m < 0 then 0 else m).toNatClampNeg 100000 = true) (h8 : (!(decide ((if m < 0 then 0 else m) < 0))) = true) (σ : qH) (L : Nat) (hL : L = σ.length) : G ξ (d + 1) j_C_init 0 (lv_args 0 [.ref L, .int m]) [] (σ ++ [.inl (2, qnew 2)]) (none, σ ++ cCod L m) := by
  subst hL
  refine G.go 4 (fun n => (rfl : _ = exe ξ n (d + 1) j_C_init 7 [(0, .ref σ.length), (1, .int m)] [.int 16, .ref σ.length] (σ ++ (.inl (2, qnew 2) :: [])))) ?_
  refine G.aloA rfl rfl rfl rfl rfl rfl ?_
  refine G.putA (k9 := 0) rfl rfl rfl rfl rfl rfl ?_
  refine G.go 2 (fun n => (rfl : _ = exe ξ n (d + 1) j_C_init 15 [(0, .ref σ.length), (1, .int m)] [.int 16, .ref σ.length] (σ ++ (.inl (2, [.ref (σ.length + 1), .null, .null]) :: [.inr (.inl (0, List.replicate 16 0))])))) ?_
  refine G.aloA rfl rfl rfl rfl rfl rfl ?_
  refine G.putA (k9 := 0) rfl rfl rfl rfl rfl rfl ?_
  refine G.go 4 (fun n => (rfl : _ = exe ξ n (d + 1) j_C_init 26 [(0, .ref σ.length), (1, .int m)] [.int (if m < 0 then 0 else m), .ref σ.length] (σ ++ (.inl (2, [.ref (σ.length + 1), .ref (σ.length + 2), .null]) :: ([.inr (.inl (0, List.replicate 16 0))] ++ [.inr (.inl (0, List.replicate 16 0))]))))) ?_
  refine G.aloA rfl rfl rfl rfl rfl (qal_int h8 h9) ?_
  refine G.putA (k9 := 0) rfl rfl rfl rfl rfl rfl ?_
  exact G.end 1 (fun n => rfl)
def cArc (L : Nat) : qH := .inl (1, [.ref (L + 1), .ref (L + 3), .ref (L + 4), .int 0, .int 0, .int 0, .int 0, .int (-1)]) :: ((cRow (L + 1) 8000 ++ [.inr (.inl (0, List.replicate 64 0))]) ++ [.inr (.inl (0, List.replicate 64 0))])
set_option maxRecDepth 100000 in
theorem c_A_init (d : Nat) (σ : qH) (L : Nat) (hL : L = σ.length) : G ξ (d + 2) j_A_init 0 (lv_args 0 [.ref L]) [] (σ ++ [.inl (1, qnew 1)]) (none, σ ++ cArc L) := by
  subst hL
  refine G.go 3 (fun n => (rfl : _ = exe ξ n (d + 2) j_A_init 5 [(0, .ref σ.length)] [.ref σ.length] (σ ++ (.inl (1, qnew 1) :: [])))) ?_
  refine G.aloA rfl rfl rfl rfl rfl rfl ?_
  refine G.go 2 (fun n => (rfl : _ = exe ξ n (d + 2) j_A_init 12 [(0, .ref σ.length)] [.int 8000, .ref (σ.length + 1), .ref (σ.length + 1), .ref σ.length] (σ ++ (.inl (1, qnew 1) :: [.inl (5, qnew 5)])))) ?_
  refine G.call (k := j_R_init) (as := [.ref (σ.length + 1), .int 8000]) (r := [.ref (σ.length + 1), .ref σ.length]) rfl rfl rfl rfl rfl rfl rfl rfl (newSub (o := .inl (5, qnew 5)) (fun τ L h => c_R_init _ 8000 τ L h) σ (.inl (1, qnew 1) :: [])) ?_
  refine G.putA (k9 := 0) rfl rfl rfl rfl rfl rfl ?_
  refine G.go 2 (fun n => (rfl : _ = exe ξ n (d + 2) j_A_init 21 [(0, .ref σ.length)] [.int 64, .ref σ.length] (σ ++ (.inl (1, [.ref (σ.length + 1), .null, .null, .int 0, .int 0, .int 0, .int 0, .int 0]) :: cRow (σ.length + 1) 8000)))) ?_
  refine G.aloA rfl rfl rfl rfl rfl rfl ?_
  refine G.putA (k9 := 0) rfl rfl rfl rfl rfl rfl ?_
  refine G.go 2 (fun n => (rfl : _ = exe ξ n (d + 2) j_A_init 29 [(0, .ref σ.length)] [.int 64, .ref σ.length] (σ ++ (.inl (1, [.ref (σ.length + 1), .ref (σ.length + 3), .null, .int 0, .int 0, .int 0, .int 0, .int 0]) :: (cRow (σ.length + 1) 8000 ++ [.inr (.inl (0, List.replicate 64 0))]))))) ?_
  refine G.aloA rfl rfl rfl rfl rfl rfl ?_
  refine G.putA (k9 := 0) rfl rfl rfl rfl rfl rfl ?_
  refine G.go 2 (fun n => (rfl : _ = exe ξ n (d + 2) j_A_init 36 [(0, .ref σ.length)] [.int 0, .ref σ.length] (σ ++ (.inl (1, [.ref (σ.length + 1), .ref (σ.length + 3), .ref (σ.length + 4), .int 0, .int 0, .int 0, .int 0, .int 0]) :: ((cRow (σ.length + 1) 8000 ++ [.inr (.inl (0, List.replicate 64 0))]) ++ [.inr (.inl (0, List.replicate 64 0))]))))) ?_
  refine G.putA (k9 := 0) rfl rfl rfl rfl rfl rfl ?_
  refine G.go 2 (fun n => (rfl : _ = exe ξ n (d + 2) j_A_init 41 [(0, .ref σ.length)] [.int 0, .ref σ.length] (σ ++ (.inl (1, [.ref (σ.length + 1), .ref (σ.length + 3), .ref (σ.length + 4), .int 0, .int 0, .int 0, .int 0, .int 0]) :: ((cRow (σ.length + 1) 8000 ++ [.inr (.inl (0, List.replicate 64 0))]) ++ [.inr (.inl (0, List.replicate 64 0))]))))) ?_
  refine G.putA (k9 := 0) rfl rfl rfl rfl rfl rfl ?_
  refine G.go 2 (fun n => (rfl : _ = exe ξ n (d + 2) j_A_init 46 [(0, .ref σ.length)] [.int 0, .ref σ.length] (σ ++ (.inl (1, [.ref (σ.length + 1), .ref (σ.length + 3), .ref (σ.length + 4), .int 0, .int 0, .int 0, .int 0, .int 0]) :: ((cRow (σ.length + 1) 8000 ++ [.inr (.inl (0, List.replicate 64 0))]) ++ [.inr (.inl (0, List.replicate 64 0))]))))) ?_
  refine G.putA (k9 := 0) rfl rfl rfl rfl rfl rfl ?_
  refine G.go 2 (fun n => (rfl : _ = exe ξ n (d + 2) j_A_init 51 [(0, .ref σ.length)] [.int 0, .ref σ.length] (σ ++ (.inl (1, [.ref (σ.length + 1), .ref (σ.length + 3), .ref (σ.length + 4), .int 0, .int 0, .int 0, .int 0, .int 0]) :: ((cRow (σ.length + 1) 8000 ++ [.inr (.inl (0, List.replicate 64 0))]) ++ [.inr (.inl (0, List.replicate 64 0))]))))) ?_
  refine G.putA (k9 := 0) rfl rfl rfl rfl rfl rfl ?_
  refine G.go 2 (fun n => (rfl : _ = exe ξ n (d + 2) j_A_init 56 [(0, .ref σ.length)] [.int (-1), .ref σ.length] (σ ++ (.inl (1, [.ref (σ.length + 1), .ref (σ.length + 3), .ref (σ.length + 4), .int 0, .int 0, .int 0, .int 0, .int 0]) :: ((cRow (σ.length + 1) 8000 ++ [.inr (.inl (0, List.replicate 64 0))]) ++ [.inr (.inl (0, List.replicate 64 0))]))))) ?_
  refine G.putA (k9 := 0) rfl rfl rfl rfl rfl rfl ?_
  exact G.end 1 (fun n => rfl)
def cMan (L : Nat) : qH := .inl (4, [.ref (L + 1), .ref (L + 3), .ref (L + 4), .int 0, .int (-1), .ref (L + 5), .int (-1), .int 0]) :: (((cRow (L + 1) 8000 ++ [.inr (.inl (0, List.replicate 2000 0))]) ++ [.inr (.inl (0, List.replicate 2000 0))]) ++ cRow (L + 5) 0)
set_option maxRecDepth 100000 in
theorem c_F_init (d : Nat) (σ : qH) (L : Nat) (hL : L = σ.length) : G ξ (d + 2) j_F_init 0 (lv_args 0 [.ref L]) [] (σ ++ [.inl (4, qnew 4)]) (none, σ ++ cMan L) := by
  subst hL
  refine G.go 3 (fun n => (rfl : _ = exe ξ n (d + 2) j_F_init 5 [(0, .ref σ.length)] [.ref σ.length] (σ ++ (.inl (4, qnew 4) :: [])))) ?_
  refine G.aloA rfl rfl rfl rfl rfl rfl ?_
  refine G.go 2 (fun n => (rfl : _ = exe ξ n (d + 2) j_F_init 12 [(0, .ref σ.length)] [.int 8000, .ref (σ.length + 1), .ref (σ.length + 1), .ref σ.length] (σ ++ (.inl (4, qnew 4) :: [.inl (5, qnew 5)])))) ?_
  refine G.call (k := j_R_init) (as := [.ref (σ.length + 1), .int 8000]) (r := [.ref (σ.length + 1), .ref σ.length]) rfl rfl rfl rfl rfl rfl rfl rfl (newSub (o := .inl (5, qnew 5)) (fun τ L h => c_R_init _ 8000 τ L h) σ (.inl (4, qnew 4) :: [])) ?_
  refine G.putA (k9 := 0) rfl rfl rfl rfl rfl rfl ?_
  refine G.go 2 (fun n => (rfl : _ = exe ξ n (d + 2) j_F_init 22 [(0, .ref σ.length)] [.int 2000, .ref σ.length] (σ ++ (.inl (4, [.ref (σ.length + 1), .null, .null, .int 0, .int 0, .null, .int 0, .int 0]) :: cRow (σ.length + 1) 8000)))) ?_
  refine G.aloA rfl rfl rfl rfl rfl rfl ?_
  refine G.putA (k9 := 0) rfl rfl rfl rfl rfl rfl ?_
  refine G.go 2 (fun n => (rfl : _ = exe ξ n (d + 2) j_F_init 31 [(0, .ref σ.length)] [.int 2000, .ref σ.length] (σ ++ (.inl (4, [.ref (σ.length + 1), .ref (σ.length + 3), .null, .int 0, .int 0, .null, .int 0, .int 0]) :: (cRow (σ.length + 1) 8000 ++ [.inr (.inl (0, List.replicate 2000 0))]))))) ?_
  refine G.aloA rfl rfl rfl rfl rfl rfl ?_
  refine G.putA (k9 := 0) rfl rfl rfl rfl rfl rfl ?_
  refine G.go 2 (fun n => (rfl : _ = exe ξ n (d + 2) j_F_init 38 [(0, .ref σ.length)] [.int 0, .ref σ.length] (σ ++ (.inl (4, [.ref (σ.length + 1), .ref (σ.length + 3), .ref (σ.length + 4), .int 0, .int 0, .null, .int 0, .int 0]) :: ((cRow (σ.length + 1) 8000 ++ [.inr (.inl (0, List.replicate 2000 0))]) ++ [.inr (.inl (0, List.replicate 2000 0))]))))) ?_
  refine G.putA (k9 := 0) rfl rfl rfl rfl rfl rfl ?_
  refine G.go 2 (fun n => (rfl : _ = exe ξ n (d + 2) j_F_init 43 [(0, .ref σ.length)] [.int (-1), .ref σ.length] (σ ++ (.inl (4, [.ref (σ.length + 1), .ref (σ.length + 3), .ref (σ.length + 4), .int 0, .int 0, .null, .int 0, .int 0]) :: ((cRow (σ.length + 1) 8000 ++ [.inr (.inl (0, List.replicate 2000 0))]) ++ [.inr (.inl (0, List.replicate 2000 0))]))))) ?_
  refine G.putA (k9 := 0) rfl rfl rfl rfl rfl rfl ?_
  refine G.go 1 (fun n => (rfl : _ = exe ξ n (d + 2) j_F_init 47 [(0, .ref σ.length)] [.ref σ.length] (σ ++ (.inl (4, [.ref (σ.length + 1), .ref (σ.length + 3), .ref (σ.length + 4), .int 0, .int (-1), .null, .int 0, .int 0]) :: ((cRow (σ.length + 1) 8000 ++ [.inr (.inl (0, List.replicate 2000 0))]) ++ [.inr (.inl (0, List.replicate 2000 0))]))))) ?_
  refine G.aloA rfl rfl rfl rfl rfl rfl ?_
  refine G.go 2 (fun n => (rfl : _ = exe ξ n (d + 2) j_F_init 52 [(0, .ref σ.length)] [.int 0, .ref (σ.length + 5), .ref (σ.length + 5), .ref σ.length] (σ ++ (.inl (4, [.ref (σ.length + 1), .ref (σ.length + 3), .ref (σ.length + 4), .int 0, .int (-1), .null, .int 0, .int 0]) :: (((cRow (σ.length + 1) 8000 ++ [.inr (.inl (0, List.replicate 2000 0))]) ++ [.inr (.inl (0, List.replicate 2000 0))]) ++ [.inl (5, qnew 5)]))))) ?_
  refine G.call (k := j_R_init) (as := [.ref (σ.length + 5), .int 0]) (r := [.ref (σ.length + 5), .ref σ.length]) rfl rfl rfl rfl rfl rfl rfl rfl (newSub (o := .inl (5, qnew 5)) (fun τ L h => c_R_init _ 0 τ L h) σ (.inl (4, [.ref (σ.length + 1), .ref (σ.length + 3), .ref (σ.length + 4), .int 0, .int (-1), .null, .int 0, .int 0]) :: ((cRow (σ.length + 1) 8000 ++ [.inr (.inl (0, List.replicate 2000 0))]) ++ [.inr (.inl (0, List.replicate 2000 0))]))) ?_
  refine G.putA (k9 := 0) rfl rfl rfl rfl rfl rfl ?_
  refine G.go 2 (fun n => (rfl : _ = exe ξ n (d + 2) j_F_init 60 [(0, .ref σ.length)] [.int (-1), .ref σ.length] (σ ++ (.inl (4, [.ref (σ.length + 1), .ref (σ.length + 3), .ref (σ.length + 4), .int 0, .int (-1), .ref (σ.length + 5), .int 0, .int 0]) :: (((cRow (σ.length + 1) 8000 ++ [.inr (.inl (0, List.replicate 2000 0))]) ++ [.inr (.inl (0, List.replicate 2000 0))]) ++ cRow (σ.length + 5) 0))))) ?_
  refine G.putA (k9 := 0) rfl rfl rfl rfl rfl rfl ?_
  refine G.go 2 (fun n => (rfl : _ = exe ξ n (d + 2) j_F_init 65 [(0, .ref σ.length)] [.int 0, .ref σ.length] (σ ++ (.inl (4, [.ref (σ.length + 1), .ref (σ.length + 3), .ref (σ.length + 4), .int 0, .int (-1), .ref (σ.length + 5), .int (-1), .int 0]) :: (((cRow (σ.length + 1) 8000 ++ [.inr (.inl (0, List.replicate 2000 0))]) ++ [.inr (.inl (0, List.replicate 2000 0))]) ++ cRow (σ.length + 5) 0))))) ?_
  refine G.putA (k9 := 0) rfl rfl rfl rfl rfl rfl ?_
  exact G.end 1 (fun n => rfl)
def cInd (L : Nat) : qH := .inl (3, [.ref (L + 1), .ref (L + 2), .int 0]) :: ([.inr (.inl (0, List.replicate 6 0))] ++ [.inr (.inl (0, List.replicate 6 0))])
set_option maxRecDepth 100000 in
theorem c_I_init (d : Nat) (σ : qH) (L : Nat) (hL : L = σ.length) : G ξ (d + 1) j_I_init 0 (lv_args 0 [.ref L]) [] (σ ++ [.inl (3, qnew 3)]) (none, σ ++ cInd L) := by
  subst hL
  refine G.go 4 (fun n => (rfl : _ = exe ξ n (d + 1) j_I_init 7 [(0, .ref σ.length)] [.int 6, .ref σ.length] (σ ++ (.inl (3, qnew 3) :: [])))) ?_
  refine G.aloA rfl rfl rfl rfl rfl rfl ?_
  refine G.putA (k9 := 0) rfl rfl rfl rfl rfl rfl ?_
  refine G.go 2 (fun n => (rfl : _ = exe ξ n (d + 1) j_I_init 15 [(0, .ref σ.length)] [.int 6, .ref σ.length] (σ ++ (.inl (3, [.ref (σ.length + 1), .null, .int 0]) :: [.inr (.inl (0, List.replicate 6 0))])))) ?_
  refine G.aloA rfl rfl rfl rfl rfl rfl ?_
  refine G.putA (k9 := 0) rfl rfl rfl rfl rfl rfl ?_
  refine G.go 2 (fun n => (rfl : _ = exe ξ n (d + 1) j_I_init 22 [(0, .ref σ.length)] [.int 0, .ref σ.length] (σ ++ (.inl (3, [.ref (σ.length + 1), .ref (σ.length + 2), .int 0]) :: ([.inr (.inl (0, List.replicate 6 0))] ++ [.inr (.inl (0, List.replicate 6 0))]))))) ?_
  refine G.putA (k9 := 0) rfl rfl rfl rfl rfl rfl ?_
  exact G.end 1 (fun n => rfl)
def cMod (L : Nat) : qH := .inl (7, [.int 0, .ref (L + 1), .ref (L + 2), .int 0, .int 0, .ref (L + 3), .int 0, .int (-1), .int 0, .ref (L + 4), .int 0, .int 0, .ref (L + 5), .ref (L + 6), .int 0, .int 0, .int 0, .int 0, .int 0, .int 0, .int 0, .ref (L + 7), .int 0, .ref (L + 8), .int 0, .int 0]) :: ((((((([.inr (.inr (.inl (List.replicate 7000 0)))] ++ [.inr (.inl (0, List.replicate 7 0))]) ++ [.inr (.inl (0, List.replicate 6 0))]) ++ [.inr (.inl (0, List.replicate 40 0))]) ++ [.inr (.inl (0, List.replicate 64 0))]) ++ [.inr (.inl (0, List.replicate 64 0))]) ++ [.inr (.inl (0, List.replicate 360 0))]) ++ [.inr (.inl (0, List.replicate 6 0))])
set_option maxRecDepth 100000 in
theorem c_M_init (d : Nat) (σ : qH) (L : Nat) (hL : L = σ.length) : G ξ (d + 1) j_M_init 0 (lv_args 0 [.ref L]) [] (σ ++ [.inl (7, qnew 7)]) (none, σ ++ cMod L) := by
  subst hL
  refine G.go 4 (fun n => (rfl : _ = exe ξ n (d + 1) j_M_init 8 [(0, .ref σ.length)] [.int 7000, .ref σ.length] (σ ++ (.inl (7, qnew 7) :: [])))) ?_
  refine G.aloA rfl rfl rfl rfl rfl rfl ?_
  refine G.putA (k9 := 0) rfl rfl rfl rfl rfl rfl ?_
  refine G.go 2 (fun n => (rfl : _ = exe ξ n (d + 1) j_M_init 16 [(0, .ref σ.length)] [.int 7, .ref σ.length] (σ ++ (.inl (7, [.int 0, .ref (σ.length + 1), .null, .int 0, .int 0, .null, .int 0, .int 0, .int 0, .null, .int 0, .int 0, .null, .null, .int 0, .int 0, .int 0, .int 0, .int 0, .int 0, .int 0, .null, .int 0, .null, .int 0, .int 0]) :: [.inr (.inr (.inl (List.replicate 7000 0)))])))) ?_
  refine G.aloA rfl rfl rfl rfl rfl rfl ?_
  refine G.putA (k9 := 0) rfl rfl rfl rfl rfl rfl ?_
  refine G.go 2 (fun n => (rfl : _ = exe ξ n (d + 1) j_M_init 24 [(0, .ref σ.length)] [.int 6, .ref σ.length] (σ ++ (.inl (7, [.int 0, .ref (σ.length + 1), .ref (σ.length + 2), .int 0, .int 0, .null, .int 0, .int 0, .int 0, .null, .int 0, .int 0, .null, .null, .int 0, .int 0, .int 0, .int 0, .int 0, .int 0, .int 0, .null, .int 0, .null, .int 0, .int 0]) :: ([.inr (.inr (.inl (List.replicate 7000 0)))] ++ [.inr (.inl (0, List.replicate 7 0))]))))) ?_
  refine G.aloA rfl rfl rfl rfl rfl rfl ?_
  refine G.putA (k9 := 0) rfl rfl rfl rfl rfl rfl ?_
  refine G.go 2 (fun n => (rfl : _ = exe ξ n (d + 1) j_M_init 31 [(0, .ref σ.length)] [.int (-1), .ref σ.length] (σ ++ (.inl (7, [.int 0, .ref (σ.length + 1), .ref (σ.length + 2), .int 0, .int 0, .ref (σ.length + 3), .int 0, .int 0, .int 0, .null, .int 0, .int 0, .null, .null, .int 0, .int 0, .int 0, .int 0, .int 0, .int 0, .int 0, .null, .int 0, .null, .int 0, .int 0]) :: (([.inr (.inr (.inl (List.replicate 7000 0)))] ++ [.inr (.inl (0, List.replicate 7 0))]) ++ [.inr (.inl (0, List.replicate 6 0))]))))) ?_
  refine G.putA (k9 := 0) rfl rfl rfl rfl rfl rfl ?_
  refine G.go 2 (fun n => (rfl : _ = exe ξ n (d + 1) j_M_init 37 [(0, .ref σ.length)] [.int 40, .ref σ.length] (σ ++ (.inl (7, [.int 0, .ref (σ.length + 1), .ref (σ.length + 2), .int 0, .int 0, .ref (σ.length + 3), .int 0, .int (-1), .int 0, .null, .int 0, .int 0, .null, .null, .int 0, .int 0, .int 0, .int 0, .int 0, .int 0, .int 0, .null, .int 0, .null, .int 0, .int 0]) :: (([.inr (.inr (.inl (List.replicate 7000 0)))] ++ [.inr (.inl (0, List.replicate 7 0))]) ++ [.inr (.inl (0, List.replicate 6 0))]))))) ?_
  refine G.aloA rfl rfl rfl rfl rfl rfl ?_
  refine G.putA (k9 := 0) rfl rfl rfl rfl rfl rfl ?_
  refine G.go 2 (fun n => (rfl : _ = exe ξ n (d + 1) j_M_init 45 [(0, .ref σ.length)] [.int 64, .ref σ.length] (σ ++ (.inl (7, [.int 0, .ref (σ.length + 1), .ref (σ.length + 2), .int 0, .int 0, .ref (σ.length + 3), .int 0, .int (-1), .int 0, .ref (σ.length + 4), .int 0, .int 0, .null, .null, .int 0, .int 0, .int 0, .int 0, .int 0, .int 0, .int 0, .null, .int 0, .null, .int 0, .int 0]) :: ((([.inr (.inr (.inl (List.replicate 7000 0)))] ++ [.inr (.inl (0, List.replicate 7 0))]) ++ [.inr (.inl (0, List.replicate 6 0))]) ++ [.inr (.inl (0, List.replicate 40 0))]))))) ?_
  refine G.aloA rfl rfl rfl rfl rfl rfl ?_
  refine G.putA (k9 := 0) rfl rfl rfl rfl rfl rfl ?_
  refine G.go 2 (fun n => (rfl : _ = exe ξ n (d + 1) j_M_init 53 [(0, .ref σ.length)] [.int 64, .ref σ.length] (σ ++ (.inl (7, [.int 0, .ref (σ.length + 1), .ref (σ.length + 2), .int 0, .int 0, .ref (σ.length + 3), .int 0, .int (-1), .int 0, .ref (σ.length + 4), .int 0, .int 0, .ref (σ.length + 5), .null, .int 0, .int 0, .int 0, .int 0, .int 0, .int 0, .int 0, .null, .int 0, .null, .int 0, .int 0]) :: (((([.inr (.inr (.inl (List.replicate 7000 0)))] ++ [.inr (.inl (0, List.replicate 7 0))]) ++ [.inr (.inl (0, List.replicate 6 0))]) ++ [.inr (.inl (0, List.replicate 40 0))]) ++ [.inr (.inl (0, List.replicate 64 0))]))))) ?_
  refine G.aloA rfl rfl rfl rfl rfl rfl ?_
  refine G.putA (k9 := 0) rfl rfl rfl rfl rfl rfl ?_
  refine G.go 2 (fun n => (rfl : _ = exe ξ n (d + 1) j_M_init 62 [(0, .ref σ.length)] [.int 360, .ref σ.length] (σ ++ (.inl (7, [.int 0, .ref (σ.length + 1), .ref (σ.length + 2), .int 0, .int 0, .ref (σ.length + 3), .int 0, .int (-1), .int 0, .ref (σ.length + 4), .int 0, .int 0, .ref (σ.length + 5), .ref (σ.length + 6), .int 0, .int 0, .int 0, .int 0, .int 0, .int 0, .int 0, .null, .int 0, .null, .int 0, .int 0]) :: ((((([.inr (.inr (.inl (List.replicate 7000 0)))] ++ [.inr (.inl (0, List.replicate 7 0))]) ++ [.inr (.inl (0, List.replicate 6 0))]) ++ [.inr (.inl (0, List.replicate 40 0))]) ++ [.inr (.inl (0, List.replicate 64 0))]) ++ [.inr (.inl (0, List.replicate 64 0))]))))) ?_
  refine G.aloA rfl rfl rfl rfl rfl rfl ?_
  refine G.putA (k9 := 0) rfl rfl rfl rfl rfl rfl ?_
  refine G.go 2 (fun n => (rfl : _ = exe ξ n (d + 1) j_M_init 70 [(0, .ref σ.length)] [.int 6, .ref σ.length] (σ ++ (.inl (7, [.int 0, .ref (σ.length + 1), .ref (σ.length + 2), .int 0, .int 0, .ref (σ.length + 3), .int 0, .int (-1), .int 0, .ref (σ.length + 4), .int 0, .int 0, .ref (σ.length + 5), .ref (σ.length + 6), .int 0, .int 0, .int 0, .int 0, .int 0, .int 0, .int 0, .ref (σ.length + 7), .int 0, .null, .int 0, .int 0]) :: (((((([.inr (.inr (.inl (List.replicate 7000 0)))] ++ [.inr (.inl (0, List.replicate 7 0))]) ++ [.inr (.inl (0, List.replicate 6 0))]) ++ [.inr (.inl (0, List.replicate 40 0))]) ++ [.inr (.inl (0, List.replicate 64 0))]) ++ [.inr (.inl (0, List.replicate 64 0))]) ++ [.inr (.inl (0, List.replicate 360 0))]))))) ?_
  refine G.aloA rfl rfl rfl rfl rfl rfl ?_
  refine G.putA (k9 := 0) rfl rfl rfl rfl rfl rfl ?_
  exact G.end 1 (fun n => rfl)
end
